def st_len : List Nat := [4, 3, 4, 3, 3, 3, 4, 3, 4, 3, 4, 7, 5, 5, 4]
def st_byt : List (List Int32) := [[36, 97, 110, 100], [36, 111, 114], [36, 110, 111, 114], [36, 101, 113], [36, 110, 101], [36, 105, 110], [36, 110, 105, 110], [36, 108, 116], [36, 108, 116, 101], [36, 103, 116], [36, 103, 116, 101], [36, 101, 120, 105, 115, 116, 115], [36, 115, 105, 122, 101], [36, 101, 108, 101, 109], [36, 110, 111, 116]]
/-- what the start gives to the small machine: the constants and the old cells -/
def st_ok (E : mmE) (b L : Nat) (xs : Nat → Int32) : Prop :=
  (∃ t f, E.2.1 0 = .ref t ∧ E.2.2 0 t = some (.inl (3, 0, f)) ∧ t < E.1) ∧ E.2.1 1 = .int 1 ∧ (E.2.1 2 = .null ∨ ∃ a, E.2.1 2 = .ref a) ∧ (∃ mi, E.2.1 3 = .ref mi) ∧
  (∀ i, i < 15 → ∃ a v f g, E.2.1 (10 + i) = .ref a ∧ E.2.2 1 a = some (.inr f) ∧ a < E.1 ∧ f 0 = .ref v ∧ f 1 = .int 0 ∧ v < E.1 ∧ E.2.2 0 v = some (.inl (0, st_len.getD i 0, g)) ∧ ∀ j, j < st_len.getD i 0 → g j = (st_byt.getD i []).getD j 0) ∧
  E.2.2 0 b = some (.inl (1, L, xs)) ∧ b < E.1
/-- THE LAW OVER THE SMALL MACHINE: what is left to prove -/
def law_pure : Prop := ∀ (E : mmE) (b L : Nat) (xs : Nat → Int32), L ≤ 3072 → st_ok E b L xs → ∃ f hF, mm_run E f 1000 173 (mm_blk 173 0) (mm_ent 4 [.ref b]) [] (E.1, 0, fun _ => none) = some (some (.int 1), hF) ∧ hF.1 ≤ E.1 + 600000 ∧ hF.2.1 ≤ 7302250
def st_tm (i : Nat) : Term := .string (mm_sts.getD i ("", 0, "")).1 (mm_sts.getD i ("", 0, "")).2.1
def st_given : List Cond := flatC (Jvm.Cond.and given_1 narrow_1)
theorem st_s1 : ∀ i, i < 15 → Cond.exactly (st_tm i) "java/lang/String" ∈ st_given := by decide +kernel
theorem st_s2 : ∀ i, i < 15 → Cond.eq (.field (st_tm i) "java/lang/String" "coder" "B") (.int 0) ∈ st_given := by decide +kernel
theorem st_s3 : ∀ i, i < 15 → Cond.arrayOf (.field (st_tm i) "java/lang/String" "value" "[B") .byte ∈ st_given := by decide +kernel
theorem st_s4 : ∀ i, i < 15 → Cond.eq (.length (.field (st_tm i) "java/lang/String" "value" "[B")) (.int (Int32.ofNat (st_len.getD i 0))) ∈ st_given := by decide +kernel
theorem st_s5 : ∀ i, i < 15 → ∀ j, j < st_len.getD i 0 → Cond.eq (.elem (.field (st_tm i) "java/lang/String" "value" "[B") (.int (Int32.ofNat j))) (.int ((st_byt.getD i []).getD j 0)) ∈ st_given := by decide +kernel
theorem st_s7 : ∀ i, i < 15 → st_len.getD i 0 < 2 ^ 31 := by decide +kernel
theorem st_s8 : ∀ i, i < 15 → Cond.stringRef (mm_sts.getD i ("", 0, "")).1 (mm_sts.getD i ("", 0, "")).2.1 (mm_sts.getD i ("", 0, "")).2.2 ∈ lw_tbl := by decide +kernel
theorem st_g0 : Cond.arrayOf (.static "java/util/ArrayList" "DEFAULTCAPACITY_EMPTY_ELEMENTDATA" "[Ljava/lang/Object;") (.object "java/lang/Object") ∈ st_given := by decide +kernel
theorem st_g1 : Cond.eq (.length (.static "java/util/ArrayList" "DEFAULTCAPACITY_EMPTY_ELEMENTDATA" "[Ljava/lang/Object;")) (.int 0) ∈ st_given := by decide +kernel
theorem st_g2 : Cond.eq (.static "java/lang/String" "COMPACT_STRINGS" "Z") (.int 1) ∈ st_given := by decide +kernel
theorem st_g3 : Cond.isRef (.static "jdk/internal/util/Preconditions" "SIOOBE_FORMATTER" "Ljava/util/function/BiFunction;") ∈ st_given := by decide +kernel
theorem st_g4 : Cond.isRef (.mirror "[Ljava/lang/Object;") ∈ st_given := by decide +kernel
theorem st_l0 : ∀ g, g < 3 → Cond.laysStatic (mm_gs g).1 (mm_gs g).2.1 (mm_gs g).2.2 ∈ lw_tbl := by decide +kernel
theorem st_l1 : ∀ g, g < 3 → Cond.initialized (mm_gs g).1 ∈ lw_tbl := by decide +kernel
theorem st_l2 : ∀ w ∈ mm_nest, w ∈ lw_tbl := by decide +kernel
theorem st_l3 : Cond.declares ⟨"java/lang/Object", "getClass", "()Ljava/lang/Class;"⟩ ∈ lw_tbl := by decide +kernel
theorem st_l4 : Cond.arrayOver (.object "java/lang/Object") ∈ lw_tbl := by decide +kernel
theorem st_l5 : Cond.arrayOver (.object "BoundsPlanner$Path") ∈ lw_tbl := by decide +kernel
theorem st_l6 : ∀ t, t < 3 → Cond.arrayClass (mm_aty t) ∈ lw_tbl := by decide +kernel
theorem st_l7 : ∀ ci, ci < 11 → Cond.instantiable (mm_cnm (ci + 1)) (mm_defs ci).length ∈ lw_tbl := by decide +kernel
/-- one address, one kind of array -/
theorem st_one {ty ty' : FieldType} {t N N' : Nat} {f f' : Nat → Value} {A : Nat → Prop} {U : State} {H : Heap} (h : va_T ty t N f A U H) (h' : va_T ty' t N' f' A U H) : ty = ty' := by
  obtain ⟨cell, a1, ⟨-, k, a2, cm, a3⟩, -⟩ := h
  obtain ⟨cell', b1, ⟨-, k', b2, cm', b3⟩, -⟩ := h'
  cases a1.symm.trans b1
  cases a2.symm.trans b2
  have := a3.symm.trans b3
  cases this
  rfl
theorem st_same {ty : FieldType} {t N N' : Nat} {f f' : Nat → Value} {A : Nat → Prop} {U : State} {H : Heap} (hN : N < 2 ^ 31) (hN' : N' < 2 ^ 31) (h : va_T ty t N f A U H) (h' : va_T ty t N' f' A U H) : N = N' ∧ ∀ j, j < N → f j = f' j := by
  obtain ⟨cell, a1, -, -, a4, a5, a6, -⟩ := h
  obtain ⟨cell', b1, -, -, b4, b5, b6, -⟩ := h'
  cases a1.symm.trans b1
  have hn : N = N' := by
    have := a5.symm.trans b5
    exact (nI_eq hN hN').mp this
  subst hn
  exact ⟨rfl, fun j hj => Option.some.inj ((a6 j hj).symm.trans (b6 j hj))⟩
theorem st_ofeq {o n d : String} {v v' : Value} {t : Nat} {A : Nat → Prop} {U : State} {H : Heap} (h : va_OF o n d v t A U H) (h' : va_OF o n d v' t A U H) : v = v' := by
  obtain ⟨cf, k, i, f, cell, a1, a2, a3, a4, a5, -⟩ := h
  obtain ⟨cf', k', i', f', cell', b1, b2, b3, b4, b5, -⟩ := h'
  cases a1.symm.trans b1
  cases a3.symm.trans b3
  exact Option.some.inj (a5.symm.trans b5)
theorem st_strs {args : Array Value} {s : State} {A : Nat → Prop} (hs : ∀ c ∈ st_given, c.before args s = true) (hA : ∀ a : Nat, a < s.heap.size → ¬ A a) : ∃ adK adV : Nat → Nat, ∀ i, i < 15 → (st_tm i).eval args s none [] s = some (.ref (adK i)) ∧ va_O "java/lang/String" (adK i) A s s.heap ∧ va_OF "java/lang/String" "coder" "B" (.int 0) (adK i) A s s.heap ∧ va_OF "java/lang/String" "value" "[B" (.ref (adV i)) (adK i) A s s.heap ∧ va_T .byte (adV i) (st_len.getD i 0) (fun j => .int ((st_byt.getD i []).getD j 0)) A s s.heap := by
  have h0 : ∀ i : Nat, ∃ q : Nat × Nat, i < 15 → (st_tm i).eval args s none [] s = some (.ref q.1) ∧ va_O "java/lang/String" q.1 A s s.heap ∧ va_OF "java/lang/String" "coder" "B" (.int 0) q.1 A s s.heap ∧ va_OF "java/lang/String" "value" "[B" (.ref q.2) q.1 A s s.heap ∧ va_T .byte q.2 (st_len.getD i 0) (fun j => .int ((st_byt.getD i []).getD j 0)) A s s.heap := by
    intro i
    by_cases hi : i < 15
    · obtain ⟨a, c, cA, kA, q1, q2, q3, q4, q5, q6, -⟩ := Cond.exactly_spec (args := args) (first := s) (o := none) (s := s) (idx := []) (t := st_tm i) (cls := "java/lang/String") (hs _ (st_s1 i hi))
      obtain ⟨t, ht, hT⟩ := va_Tof (f := fun j => .int ((st_byt.getD i []).getD j 0)) (A := A) (st_s7 i hi) (hs _ (st_s3 i hi)) (va_eqt (hs _ (st_s4 i hi))) (fun j hj => va_eqt (hs _ (st_s5 i hi j hj))) hA
      exact ⟨(a, t), fun _ => ⟨q1, ⟨cA, q3, q5, by rw [q6]; exact q2, hA a (Array.getElem?_eq_some_iff.mp q3).1⟩, vk_OFof q1 (va_eqt (hs _ (st_s2 i hi))) hA, vk_OFof q1 ht hA, hT⟩⟩
    · exact ⟨(0, 0), fun h => absurd h hi⟩
  obtain ⟨ad, had⟩ := Classical.axiomOfChoice h0
  exact ⟨fun i => (ad i).1, fun i => (ad i).2, had⟩
def st_fd (ad : Nat → Nat) (a : Nat) : Option Nat := (List.range 15).find? (fun i => ad i == a)
theorem st_fdS {ad : Nat → Nat} {a i : Nat} (h : st_fd ad a = some i) : i < 15 ∧ ad i = a := by
  have h1 := List.find?_some h
  have h2 := List.mem_of_find?_eq_some h
  exact ⟨List.mem_range.mp h2, by simpa using h1⟩
theorem st_fdI {ad : Nat → Nat} {i : Nat} (hi : i < 15) : ∃ j, st_fd ad (ad i) = some j := by
  cases h : st_fd ad (ad i) with
  | some j => exact ⟨j, rfl⟩
  | none =>
    have h1 := List.find?_eq_none.mp h i (List.mem_range.mpr hi)
    simp at h1

