/-- what holds inside a method -/
def mm_cx (E : mmE) (D : va_G) (dA : Nat → ClassId) (p : Program) (s : State) (mth : MethodId) (args : Array Value) (meth : Method) (c : Code) (m : Nat) : Prop :=
  p.tables.exec = Jvm.exec ∧ c.code = mm_by m ∧ meth.sig.returnType = mm_re m ∧ c.maxLocals = mm_maxL m ∧ s.vm.findClass (mm_own m) = some mth.cls ∧ (∀ w ∈ mm_tbl, w.before args s = true) ∧ meth.locks = false ∧ ((mm_y m).name = "<init>" → meth.name = "<init>") ∧ va_K D mm_cls (mm_tys dA) s ∧ mm_env E s s.heap
theorem mm_uw0 : ∀ w ∈ u_ws "BoundsPlanner" mF_0 5, w ∈ mm_tbl := by decide +kernel
theorem mm_uw1 : ∀ w ∈ u_ws "BoundsPlanner$Path" mF_1 5, w ∈ mm_tbl := by decide +kernel
theorem mm_uw2 : ∀ w ∈ u_ws "BoundsPlanner$Reader" mF_2 4, w ∈ mm_tbl := by decide +kernel
theorem mm_uw3 : ∀ w ∈ u_ws "java/util/ArrayList" mF_3 3, w ∈ mm_tbl := by decide +kernel
theorem mm_uw4 : ∀ w ∈ u_ws "BoundsPlanner$Node" mF_4 12, w ∈ mm_tbl := by decide +kernel
theorem mm_uw5 : ∀ w ∈ u_ws "BoundsPlanner$Checker" mF_5 1, w ∈ mm_tbl := by decide +kernel
theorem mm_uw6 : ∀ w ∈ u_ws "BoundsPlanner$End" mF_6 5, w ∈ mm_tbl := by decide +kernel
theorem mm_uw7 : ∀ w ∈ u_ws "BoundsPlanner$Interval" mF_7 2, w ∈ mm_tbl := by decide +kernel
theorem mm_uw8 : ∀ w ∈ u_ws "BoundsPlanner$Clause" mF_8 4, w ∈ mm_tbl := by decide +kernel
theorem mm_uw9 : ∀ w ∈ u_ws "BoundsPlanner$Filter" mF_9 2, w ∈ mm_tbl := by decide +kernel
theorem mm_uw10 : ∀ w ∈ u_ws "BoundsPlannerModel" mF_10 18, w ∈ mm_tbl := by decide +kernel
theorem mm_nmd : ∀ ci, ci < 11 → ∀ q, mm_cls[ci]? = some q → ∀ a, a < q.2.2 → ∀ b, b < q.2.2 → a ≠ b → (q.2.1 a).2.1 ≠ (q.2.1 b).2.1 := by
  intro ci hci q hq
  match ci, hq with
  | 0, hq => cases hq; decide +kernel
  | 1, hq => cases hq; decide +kernel
  | 2, hq => cases hq; decide +kernel
  | 3, hq => cases hq; decide +kernel
  | 4, hq => cases hq; decide +kernel
  | 5, hq => cases hq; decide +kernel
  | 6, hq => cases hq; decide +kernel
  | 7, hq => cases hq; decide +kernel
  | 8, hq => cases hq; decide +kernel
  | 9, hq => cases hq; decide +kernel
  | 10, hq => cases hq; decide +kernel
  | k + 11, _ => omega
theorem mm_tyd : ∀ ci, ci < 11 → ∀ q, mm_cls[ci]? = some q → ∀ k, k < q.2.2 → parseFieldDescriptor (q.2.1 k).2.2.1 = some ((mm_fts.getD ci (fun _ => .int)) k) := by
  intro ci hci q hq
  match ci, hq with
  | 0, hq => cases hq; decide +kernel
  | 1, hq => cases hq; decide +kernel
  | 2, hq => cases hq; decide +kernel
  | 3, hq => cases hq; decide +kernel
  | 4, hq => cases hq; decide +kernel
  | 5, hq => cases hq; decide +kernel
  | 6, hq => cases hq; decide +kernel
  | 7, hq => cases hq; decide +kernel
  | 8, hq => cases hq; decide +kernel
  | 9, hq => cases hq; decide +kernel
  | 10, hq => cases hq; decide +kernel
  | k + 11, _ => omega
theorem mm_dfd : ∀ ci, ci < 11 → ∀ q, mm_cls[ci]? = some q → ∀ k, k < q.2.2 → defaultValue ((mm_fts.getD ci (fun _ => .int)) k) = vp_V (mm_defs ci) k := by
  intro ci hci q hq
  match ci, hq with
  | 0, hq => cases hq; decide +kernel
  | 1, hq => cases hq; decide +kernel
  | 2, hq => cases hq; decide +kernel
  | 3, hq => cases hq; decide +kernel
  | 4, hq => cases hq; decide +kernel
  | 5, hq => cases hq; decide +kernel
  | 6, hq => cases hq; decide +kernel
  | 7, hq => cases hq; decide +kernel
  | 8, hq => cases hq; decide +kernel
  | 9, hq => cases hq; decide +kernel
  | 10, hq => cases hq; decide +kernel
  | k + 11, _ => omega
theorem mm_cls_lt {ci : Nat} {q : vw_C} (h : mm_cls[ci]? = some q) : ci < 11 := (List.getElem?_eq_some_iff.mp h).1
theorem mm_uws {ci : Nat} {C : String} {T : u_T} {N : Nat} (h : mm_cls[ci]? = some (C, T, N)) : ∀ w ∈ u_ws C T N, w ∈ mm_tbl := by
  have hl := mm_cls_lt h
  match ci, h with
  | 0, h => cases h; exact mm_uw0
  | 1, h => cases h; exact mm_uw1
  | 2, h => cases h; exact mm_uw2
  | 3, h => cases h; exact mm_uw3
  | 4, h => cases h; exact mm_uw4
  | 5, h => cases h; exact mm_uw5
  | 6, h => cases h; exact mm_uw6
  | 7, h => cases h; exact mm_uw7
  | 8, h => cases h; exact mm_uw8
  | 9, h => cases h; exact mm_uw9
  | 10, h => cases h; exact mm_uw10
  | k + 11, _ => omega
theorem mm_wdm {k : Nat} {w : Cond} (h : mm_wd k = some w) : w ∈ lw_tbl := List.mem_of_getElem? h
theorem mm_smf : Cond.sameField "java/util/ArrayList" "java/util/AbstractList" "modCount" "I" ∈ mm_tbl := by decide +kernel
theorem mm_fkS {own : String} {idx ci k j : Nat} (h : mm_fk own idx ci k j = true) : ∃ (C : String) (T : u_T) (N : Nat) (r : String), mm_cls[ci]? = some (C, T, N) ∧ k < N ∧ Cond.fieldLink own idx r (T k).2.1 (T k).2.2.1 ∈ mm_tbl ∧ (r = (T k).1 ∨ Cond.sameField r (T k).1 (T k).2.1 (T k).2.2.1 ∈ mm_tbl) := by
  unfold mm_fk at h
  split at h
  · rename_i C T N hc
    rw [Bool.and_eq_true] at h
    obtain ⟨h1, h2⟩ := h
    split at h2
    · rename_i o x r n d hw
      simp only [Bool.and_eq_true, Bool.or_eq_true, decide_eq_true_eq] at h2
      obtain ⟨⟨⟨⟨rfl, rfl⟩, rfl⟩, rfl⟩, h3⟩ := h2
      refine ⟨C, T, N, r, hc, of_decide_eq_true h1, mm_win (mm_wdm hw) rfl, ?_⟩
      rcases h3 with h3 | ⟨⟨⟨⟨e1, e2⟩, e3⟩, e4⟩, e5⟩
      · exact Or.inl h3
      · right
        rw [e4, e5, e3, e1, e2]
        exact mm_smf
    · cases h2
  · cases h
section MR
variable {p : Program} {l : Launch} {e : Env} {R : Room} {s : State} {mth : MethodId} {args : Array Value} {below : List Frame} {meth : Method} {c : Code} {H : Heap} {locs : List Loc} {cells slots : Nat} {Q : State → Prop} {E : mmE} {D : va_G} {dA : Nat → ClassId} {m pc : Nat} {ls : Array Slot} {rest : List Value} {h : mmH}
theorem mr_get (cx : mm_cx E D dA p s mth args meth c m) (hr : mm_rel E D dA h H) {a ci k j idx : Nat} {fs : List Value} {v : Value} (ha : h.2.2 a = some (.inr (ci, fs))) (hk : mm_fk (mm_own m) idx ci k j = true) (hv : fs[k]? = some v) (hdg : decode (mm_by m) pc = .ok (.getfield idx, 3))
    (kk : W p l e R s mth args below meth c H locs cells slots Q (F0 mth (pc + 3) ls (v :: rest))) : W p l e R s mth args below meth c H locs cells slots Q (F0 mth pc ls (.ref a :: rest)) := by
  obtain ⟨hx, hb, -, -, hown, hts, -, -, hK, -⟩ := cx
  obtain ⟨C, T, N, r, hc, hkN, hlink, hsame⟩ := mm_fkS hk
  have hP : va_P D mm_cls [(a, .inr (ci, fs))] H := fun q x hq => by
    have : q < 1 := (List.getElem?_eq_some_iff.mp hq).1
    obtain rfl : q = 0 := by omega
    cases hq
    exact (hr.2.2 a _ ha).2.1
  refine va_get (C := C) (T := T) (N := N) hx hb hts (mm_uws hc) hown hK hP 0 rfl hc k hkN (hts _ hlink) (fun x hxx => ?_) hv hdg kk
  rcases hsame with rfl | hsame
  · exact hxx
  · exact u_same (hts _ hsame) x hxx
theorem mm_fit_ok {t : Nat} {v : Value} {ty : FieldType} (hf : mm_fit t v = true) (ht : mm_tg ty = t) : narrow ty v = v ∧ fits ty v = true := by
  subst ht
  cases ty with
  | int => cases v <;> first | (cases hf; done) | exact ⟨rfl, rfl⟩
  | long => cases v <;> first | (cases hf; done) | exact ⟨rfl, rfl⟩
  | object n => cases v <;> first | (cases hf; done) | exact ⟨rfl, rfl⟩
  | array t => cases v <;> first | (cases hf; done) | exact ⟨rfl, rfl⟩
  | boolean =>
    cases v with
    | int x =>
      have h2 : (decide (x = 0) || decide (x = 1)) = true := hf
      simp only [Bool.or_eq_true, decide_eq_true_eq] at h2
      rcases h2 with rfl | rfl <;> exact ⟨rfl, rfl⟩
    | _ => cases hf
  | byte =>
    cases v with
    | int x =>
      have h2 : x.toInt8.toInt32 = x := of_decide_eq_true hf
      rw [← h2]
      exact ⟨pk_nb x, pk_fb x⟩
    | _ => cases hf
  | char =>
    cases v with
    | int x =>
      have h2 : (x.toUInt32 % 65536).toInt32 = x := of_decide_eq_true hf
      rw [← h2]
      exact ⟨pk_nc x, pk_fc x⟩
    | _ => cases hf
  | _ => cases v <;> cases hf
theorem mr_put (cx : mm_cx E D dA p s mth args meth c m) (hr : mm_rel E D dA h H) (hS : va_S (mm_A E) s.heap H locs) {a ci k j idx t : Nat} {fs : List Value} {v : Value} (ha : h.2.2 a = some (.inr (ci, fs))) (hk : mm_fk (mm_own m) idx ci k j = true) (hp : mm_pk m ci k t = true) (hl : k < fs.length) (hf : mm_fit t v = true) (hdg : decode (mm_by m) pc = .ok (.putfield idx, 3))
    (kk : ∀ (H1 : Heap) (locs1 : List Loc), mm_rel E D dA (mm_set h a (.inr (ci, fs.set k v))) H1 → va_S (mm_A E) s.heap H1 locs1 → W p l e R s mth args below meth c H1 locs1 cells slots Q (F0 mth (pc + 3) ls rest)) : W p l e R s mth args below meth c H locs cells slots Q (F0 mth pc ls (v :: .ref a :: rest)) := by
  obtain ⟨hx, hb, -, -, hown, hts, -, hin, hK, -⟩ := cx
  obtain ⟨C, T, N, r, hc, hkN, hlink, hsame⟩ := mm_fkS hk
  have hci := mm_cls_lt hc
  have hA := (hr.2.2 a _ ha).1
  have hst : ∀ x, s.fieldFound? (T k).1 (T k).2.1 (T k).2.2.1 = some x → s.fieldFound? r (T k).2.1 (T k).2.2.1 = some x := fun x hxx => by
    rcases hsame with rfl | hsame
    · exact hxx
    · exact u_same (hts _ hsame) x hxx
  have hd := mm_tyd ci hci _ hc k hkN
  unfold mm_pk at hp
  rw [hc] at hp
  simp only [Bool.and_eq_true, decide_eq_true_eq, Bool.or_eq_true, Bool.not_eq_true'] at hp
  obtain ⟨ht, hfin⟩ := hp
  obtain ⟨hn, hfit⟩ := mm_fit_ok hf ht
  have hap := va_apart (own := mm_own m) hts (mm_uws hc) _ (mm_tyd ci hci _ hc) (mm_nmd ci hci _ hc) hK hc
  obtain ⟨q', h1, cell, q1, q2, q3, q4⟩ := (hr.2.2 a _ ha).2.1
  have hq' : q' = (C, T, N) := Option.some.inj (h1.symm.trans hc)
  subst hq'
  obtain ⟨hSl, hfc, kC, hkC, hkind⟩ := hK.1 ci _ hc
  obtain ⟨cf, kf, fi, f, hi, hsl⟩ := hSl k hkN
  have hlay := hts _ (mm_uws hc _ (u_in_lay hkN))
  have hstt := (u_facts hfc hkC (u_lays hts (mm_uws hc) hkN) hi).1
  have hend : ∀ (H1 : Heap), H1[a]? = some (cell.setSlot f.slot v) → H1.size = H.size → (∀ q, q ≠ a → H1[q]? = H[q]?) → W p l e R s mth args below meth c H1 (locs ++ [⟨a, f.slot⟩]) cells slots Q (F0 mth (pc + 3) ls rest) := by
    intro H1 e1 e2 e3
    refine kk H1 _ (hr.set ha rfl trivial e2 e3 ?_) (hS.put e2 e3 hA)
    rw [hsl] at e1
    exact ⟨_, hc, t_OB.to (V := updV (vp_V fs) k v) ⟨_, e1, q2, q3, t_set q4 hap hkN v⟩ (fun j _ => vp_updV_set hl v j)⟩
  unfold u_lay at hlay
  rcases hfin with hfin | ⟨hf1, hf2⟩
  · rw [if_neg (by rw [hfin]; decide)] at hlay
    have h6 := u_store hfc hkC hkind hlay hi hd hn hfit
    exact W.putK hx hb (f := f) ⟨hown, hts _ hlink, ⟨_, _, _, hst _ hi⟩, hstt⟩ (by rw [q2]; exact h6) q1 q3 (by rw [hsl]; exact k2_hasslot (q4 k hkN)) rfl rfl hdg hend
  · by_cases hfl : (T k).2.2.2 = true
    · rw [if_pos hfl] at hlay
      have hcf : mth.cls = cf := by
        obtain ⟨_, _, c', _, _, _, -, -, hf', -, -, -, hown2, -⟩ := Cond.laysFinal_spec hlay
        have e1 : c' = cf := by have := hi.symm.trans hf'; simp at this; exact this.1.symm
        rw [hf2] at hown2
        rw [← e1]; exact Option.some.inj (hown.symm.trans hown2)
      have h6 := u_fits hfc hkC hkind (Or.inr hlay) hi hd hn hfit
      exact W.putFinK hx hb hown (hts _ hlink) (hst _ hi) hstt hcf (hin hf1) (by rw [q2]; exact h6) q1 q3 (by rw [hsl]; exact k2_hasslot (q4 k hkN)) rfl rfl hdg hend
    · rw [if_neg hfl] at hlay
      have h6 := u_store hfc hkC hkind hlay hi hd hn hfit
      exact W.putK hx hb (f := f) ⟨hown, hts _ hlink, ⟨_, _, _, hst _ hi⟩, hstt⟩ (by rw [q2]; exact h6) q1 q3 (by rw [hsl]; exact k2_hasslot (q4 k hkN)) rfl rfl hdg hend
end MR
