/-! CLAUSES: what a filter says of one path -/
section Z
variable {ob : Nat → Nat → Int32} {B : Nat → Nat}
def zK (B : Nat → Nat) (Z : List (Nat × Nat × Nat)) (e : Nat) : List (Nat × Nat) := (Z.filter (fun z => q_same B z.1 B e)).map (fun z => z.2)
def zEx (ob : Nat → Nat → Int32) (B : Nat → Nat) (K : List (Nat × Nat)) : Bool := (q_fst ob B (fun ce => decide (ce.1 < 3)) K).isSome
theorem zK_app (Z : List (Nat × Nat × Nat)) (z : Nat × Nat × Nat) (e : Nat) : zK B (Z ++ [z]) e = zK B Z e ++ (if q_same B z.1 B e = true then [z.2] else []) := by
  unfold zK
  rw [List.filter_append, List.map_append]
  congr 1
  rw [List.filter_cons]
  split <;> rfl
theorem fall_app (K : List (Nat × Nat)) (ce : Nat × Nat) : q_fall ob B (K ++ [ce]) = q_join2 ob (q_fall ob B K) (q_bnd ob B ce) := by
  unfold q_fall
  rw [List.foldl_append]
  rfl
theorem fst_app (p : Nat × Nat → Bool) : ∀ (K : List (Nat × Nat)) (ce : Nat × Nat), q_fst ob B p (K ++ [ce]) = if (q_fst ob B p K).isSome = true then q_fst ob B p K else if p ce = true ∧ (q_bnd ob B ce).isSome = true then q_bnd ob B ce else none := by
  intro K
  induction K with
  | nil => intro ce; rfl
  | cons x K ih =>
    intro ce
    rw [List.cons_append, q_fst_c, q_fst_c]
    by_cases h : p x = true ∧ (q_bnd ob B x).isSome = true
    · rw [if_pos h, if_pos h, if_pos h.2]
    · rw [if_neg h, if_neg h, ih ce]
theorem fst_none {p : Nat × Nat → Bool} : ∀ {K : List (Nat × Nat)}, (∀ ce ∈ K, q_bnd ob B ce = none) → q_fst ob B p K = none := by
  intro K
  induction K with
  | nil => intro _; rfl
  | cons x K ih =>
    intro h
    rw [q_fst_c, if_neg (fun q => by rw [h x List.mem_cons_self] at q; exact Bool.noConfusion q.2)]
    exact ih (fun y hy => h y (List.mem_cons_of_mem x hy))
theorem fall_none {K : List (Nat × Nat)} (h : ∀ ce ∈ K, q_bnd ob B ce = none) : q_fall ob B K = none ∧ q_fone ob B K = none := by
  constructor
  · unfold q_fall
    induction K with
    | nil => rfl
    | cons x K ih =>
      rw [List.foldl_cons, h x List.mem_cons_self]
      exact ih (fun y hy => h y (List.mem_cons_of_mem x hy))
  · unfold q_fone
    rw [fst_none h, fst_none h]
theorem fone_is (K : List (Nat × Nat)) : q_fone ob B K = if zEx ob B K = true then q_fst ob B (fun ce => decide (ce.1 < 3)) K else q_fst ob B (fun _ => true) K := by
  unfold q_fone zEx
  cases q_fst ob B (fun ce => decide (ce.1 < 3)) K <;> rfl
/-- a condition without bounds changes nothing -/
theorem app_none {K : List (Nat × Nat)} {ce : Nat × Nat} (h : q_bnd ob B ce = none) : q_fall ob B (K ++ [ce]) = q_fall ob B K ∧ q_fone ob B (K ++ [ce]) = q_fone ob B K ∧ zEx ob B (K ++ [ce]) = zEx ob B K := by
  have f : ∀ p, q_fst ob B p (K ++ [ce]) = q_fst ob B p K := by
    intro p
    rw [fst_app, h]
    split
    · rfl
    · rename_i q
      rw [if_neg (fun z => Bool.noConfusion z.2)]
      cases hh : q_fst ob B p K with
      | none => rfl
      | some l => rw [hh] at q; exact absurd rfl q
  refine ⟨by rw [fall_app, h]; rfl, ?_, ?_⟩
  · unfold q_fone
    rw [f, f]
  · unfold zEx
    rw [f]
/-- the first condition with bounds -/
theorem app_new {K : List (Nat × Nat)} {ce : Nat × Nat} {l : List qR} (hK : ∀ c ∈ K, q_bnd ob B c = none) (h : q_bnd ob B ce = some l) : q_fall ob B (K ++ [ce]) = some l ∧ q_fone ob B (K ++ [ce]) = some l ∧ zEx ob B (K ++ [ce]) = decide (ce.1 < 3) := by
  have e1 : zEx ob B (K ++ [ce]) = decide (ce.1 < 3) := by
    unfold zEx
    rw [fst_app, fst_none hK, if_neg (fun q => Bool.noConfusion q), h]
    by_cases h3 : ce.1 < 3
    · rw [if_pos ⟨decide_eq_true h3, rfl⟩, decide_eq_true h3]
      rfl
    · rw [if_neg (fun q => h3 (of_decide_eq_true q.1)), decide_eq_false h3]
      rfl
  refine ⟨by rw [fall_app, (fall_none hK).1, h]; rfl, ?_, e1⟩
  have n0 : ¬ (none : Option (List qR)).isSome = true := fun q => Bool.noConfusion q
  rw [fone_is, e1, fst_app, fst_app, fst_none hK, fst_none hK, if_neg n0, if_neg n0, h]
  by_cases h3 : ce.1 < 3
  · rw [if_pos (decide_eq_true h3), if_pos ⟨decide_eq_true h3, rfl⟩]
  · rw [if_neg (fun q => h3 (of_decide_eq_true q)), if_pos ⟨rfl, rfl⟩]
/-- one more condition with bounds -/
theorem app_more {K : List (Nat × Nat)} {ce : Nat × Nat} {l RA RO : List qR} (h1 : q_fall ob B K = some RA) (h2 : q_fone ob B K = some RO) (h : q_bnd ob B ce = some l) : q_fall ob B (K ++ [ce]) = some (q_meet ob RA l) ∧ q_fone ob B (K ++ [ce]) = some (if zEx ob B K = false ∧ ce.1 < 3 then l else RO) ∧ zEx ob B (K ++ [ce]) = (zEx ob B K || decide (ce.1 < 3)) := by
  have e1 : zEx ob B (K ++ [ce]) = (zEx ob B K || decide (ce.1 < 3)) := by
    unfold zEx
    rw [fst_app, h]
    cases hh : q_fst ob B (fun ce => decide (ce.1 < 3)) K with
    | some l => rfl
    | none =>
      rw [if_neg (fun q => Bool.noConfusion q)]
      by_cases h3 : ce.1 < 3
      · rw [if_pos ⟨decide_eq_true h3, rfl⟩, decide_eq_true h3]
        rfl
      · rw [if_neg (fun q => h3 (of_decide_eq_true q.1)), decide_eq_false h3]
        rfl
  refine ⟨by rw [fall_app, h1, h]; rfl, ?_, e1⟩
  rw [fone_is] at h2
  rw [fone_is, e1]
  cases hx : zEx ob B K with
  | true =>
    rw [hx, if_pos rfl] at h2
    have s0 : (some RO).isSome = true := rfl
    rw [Bool.true_or, if_pos rfl, fst_app, h2, if_pos s0, if_neg (fun q => Bool.noConfusion q.1)]
  | false =>
    rw [hx, if_neg (fun q => Bool.noConfusion q)] at h2
    have hx' : (q_fst ob B (fun ce => decide (ce.1 < 3)) K).isSome = false := hx
    rw [Bool.false_or]
    by_cases h3 : ce.1 < 3
    · rw [if_pos (decide_eq_true h3), fst_app, hx', if_neg (fun q => Bool.noConfusion q), if_pos ⟨decide_eq_true h3, by rw [h]; rfl⟩, if_pos ⟨rfl, h3⟩, h]
    · rw [if_neg (fun q => h3 (of_decide_eq_true q)), fst_app, h2, if_pos (show (some RO).isSome = true from rfl), if_neg (fun q => h3 q.2)]
theorem same_pn {x e : Nat} {P : Nat → Nat} {m : Nat} (h : q_pn B e P m = true) : q_pn B x P m = q_same B x B e := by
  unfold q_pn q_same at *
  have h := q_bytes_0.mp (of_decide_eq_true h)
  rw [Bool.eq_iff_iff, decide_eq_true_eq, decide_eq_true_eq, q_bytes_0, q_bytes_0]
  constructor
  · intro q
    exact ⟨q.1.trans h.1.symm, fun j hj => (q.2 j hj).trans (h.2 j (by rw [h.1, ← q.1]; exact hj)).symm⟩
  · intro q
    exact ⟨q.1.trans h.1, fun j hj => (q.2 j hj).trans (h.2 j (by rw [← q.1]; exact hj))⟩
theorem same_refl (x : Nat) : q_same B x B x = true := decide_eq_true (q_bytes_0.mpr ⟨rfl, fun _ _ => rfl⟩)
theorem same_symm {x y : Nat} (h : q_same B x B y = true) : q_same B y B x = true := by
  have h := q_bytes_0.mp (of_decide_eq_true h)
  exact decide_eq_true (q_bytes_0.mpr ⟨h.1.symm, fun j hj => (h.2 j (by rw [h.1]; exact hj)).symm⟩)
theorem same_trans {x y z : Nat} (h1 : q_same B x B y = true) (h2 : q_same B y B z = true) : q_same B x B z = true := by
  have h1 := q_bytes_0.mp (of_decide_eq_true h1)
  have h2 := q_bytes_0.mp (of_decide_eq_true h2)
  exact decide_eq_true (q_bytes_0.mpr ⟨h1.1.trans h2.1, fun j hj => (h1.2 j hj).trans (h2.2 j (by rw [← h1.1]; exact hj))⟩)
theorem zK_same {Z : List (Nat × Nat × Nat)} {x y : Nat} (h : q_same B x B y = true) : zK B Z x = zK B Z y := by
  unfold zK
  congr 1
  refine List.filter_congr (fun z _ => ?_)
  rw [Bool.eq_iff_iff]
  exact ⟨fun q => same_trans q h, fun q => same_trans q (same_symm h)⟩
end Z
