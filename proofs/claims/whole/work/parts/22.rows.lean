section MR
variable {p : Program} {l : Launch} {e : Env} {R : Room} {s : State} {mth : MethodId} {args : Array Value} {below : List Frame} {meth : Method} {c : Code} {H : Heap} {locs : List Loc} {cells slots : Nat} {Q : State → Prop} {E : mmE} {D : va_G} {dA : Nat → ClassId} {m pc : Nat} {ls : Array Slot} {rest : List Value} {h : mmH}
theorem mr_P1 {a : Nat} {x : va_E} (hx : va_at D mm_cls (a, x) H) : va_P D mm_cls [(a, x)] H := fun q y hq => by
  have : q < 1 := (List.getElem?_eq_some_iff.mp hq).1
  obtain rfl : q = 0 := by omega
  cases hq
  exact hx
theorem mr_ty {t : Nat} (ht : t < 5) : (mm_tys dA)[t]? = some (dA t, mm_aty t) := by
  match t, ht with
  | 0, _ => rfl
  | 1, _ => rfl
  | 2, _ => rfl
  | 3, _ => rfl
  | 4, _ => rfl
theorem mr_in {i : Int32} {n : Nat} (h : mm_in i n = true) : vp_in i n := by
  simp only [mm_in, decide_eq_true_eq] at h
  exact h
theorem mr_out (hS : va_S (mm_A E) s.heap H locs) : ∀ a : Nat, a < s.heap.size → ¬ mm_A E a → H[a]? = s.heap[a]? := hS.2.1
theorem mr_iald (cx : mm_cx E D dA p s mth args meth c m) (hr : mm_rel E D dA h H) (hS : va_S (mm_A E) s.heap H locs) {a n : Nat} {f : Nat → Int32} {i : Int32} (ha : mm_aI E h a = some (1, n, f)) (hin : mm_in i n = true) (hdg : decode (mm_by m) pc = .ok (.iaload, 1))
    (kk : W p l e R s mth args below meth c H locs cells slots Q (F0 mth (pc + 1) ls (.int (f i.toNatClampNeg) :: rest))) : W p l e R s mth args below meth c H locs cells slots Q (F0 mth pc ls (.int i :: .ref a :: rest)) := by
  obtain ⟨hx, hb, -, -, hown, hts, -, -, hK, hE⟩ := cx
  have hi := mr_in hin
  unfold mm_aI at ha
  cases hc : h.2.2 a with
  | none =>
    rw [hc] at ha
    dsimp only at ha
    cases hz : E.2.2 0 a with
    | none => rw [hz] at ha; cases ha
    | some z =>
      rw [hz] at ha
      match z, hz, ha with
      | .inl x, hz, ha =>
        cases ha
        exact va_ti hx hb ((hE.2.2.2.1 0 a _ hz).2.2) hS hi rfl hdg kk
      | .inr x, hz, ha => cases ha
  | some z =>
    rw [hc] at ha
    match z, hc, ha with
    | .inl (t, n', .inl f'), hc, ha =>
      cases ha
      exact va_iald hx hb hK (mr_P1 (hr.2.2 a _ hc).2.1) 0 1 rfl rfl hi hdg kk
    | .inl (t, n', .inr z), hc, ha => cases ha
    | .inr z, hc, ha => cases ha
theorem mr_bald (cx : mm_cx E D dA p s mth args meth c m) (hr : mm_rel E D dA h H) (hS : va_S (mm_A E) s.heap H locs) {a t n : Nat} {f : Nat → Int32} {i : Int32} (ha : mm_aI E h a = some (t, n, f)) (ht : t = 0 ∨ t = 2) (hin : mm_in i n = true) (hdg : decode (mm_by m) pc = .ok (.baload, 1))
    (kk : W p l e R s mth args below meth c H locs cells slots Q (F0 mth (pc + 1) ls (.int (f i.toNatClampNeg) :: rest))) : W p l e R s mth args below meth c H locs cells slots Q (F0 mth pc ls (.int i :: .ref a :: rest)) := by
  obtain ⟨hx, hb, -, -, hown, hts, -, -, hK, hE⟩ := cx
  have hi := mr_in hin
  unfold mm_aI at ha
  cases hc : h.2.2 a with
  | none =>
    rw [hc] at ha
    dsimp only at ha
    cases hz : E.2.2 0 a with
    | none => rw [hz] at ha; cases ha
    | some z =>
      rw [hz] at ha
      match z, hz, ha with
      | .inl x, hz, ha =>
        cases ha
        rcases ht with rfl | rfl
        · exact va_tb hx hb ((hE.2.2.2.1 0 a _ hz).2.2) hS hi rfl hdg kk
        · exact va_tz hx hb ((hE.2.2.2.1 0 a _ hz).2.2) hS hi rfl hdg kk
      | .inr x, hz, ha => cases ha
  | some z =>
    rw [hc] at ha
    match z, hc, ha with
    | .inl (t, n', .inl f'), hc, ha =>
      cases ha
      rcases ht with rfl | rfl
      · exact va_bald hx hb hK (mr_P1 (hr.2.2 a _ hc).2.1) 0 0 rfl rfl hi hdg kk
      · exact va_zald hx hb hK (mr_P1 (hr.2.2 a _ hc).2.1) 0 2 rfl rfl hi hdg kk
    | .inl (t, n', .inr z), hc, ha => cases ha
    | .inr z, hc, ha => cases ha
theorem mr_tcase {t : Nat} {x : vp_A} (hr : mm_rel E D dA h H) {a : Nat} (hc : h.2.2 a = some (.inl (t, x))) : H[a]? = some (vp_cell (dA t) x) := (hr.2.2 a _ hc).2.1
theorem mr_alen (cx : mm_cx E D dA p s mth args meth c m) (hr : mm_rel E D dA h H) (hS : va_S (mm_A E) s.heap H locs) {a n : Nat} (ha : mm_len E h a = some n) (hdg : decode (mm_by m) pc = .ok (.arraylength, 1))
    (kk : W p l e R s mth args below meth c H locs cells slots Q (F0 mth (pc + 1) ls (.int (Int32.ofNat n) :: rest))) : W p l e R s mth args below meth c H locs cells slots Q (F0 mth pc ls (.ref a :: rest)) := by
  obtain ⟨hx, hb, -, -, hown, hts, -, -, hK, hE⟩ := cx
  unfold mm_len at ha
  cases hc : h.2.2 a with
  | none =>
    rw [hc] at ha
    dsimp only at ha
    cases hz : E.2.2 0 a with
    | none => rw [hz] at ha; cases ha
    | some z =>
      rw [hz] at ha
      match z, hz, ha with
      | .inl x, hz, ha =>
        cases ha
        exact va_tlen hx hb ((hE.2.2.2.1 0 a _ hz).2.2) hS rfl hdg kk
      | .inr x, hz, ha => cases ha
  | some z =>
    rw [hc] at ha
    match z, hc, ha with
    | .inl (t, n', y), hc, ha =>
      cases ha
      exact va_alen hx hb hK (mr_P1 (hr.2.2 a _ hc).2.1) 0 t rfl (mr_ty (hr.2.2 a _ hc).2.2.lt) rfl hdg kk
    | .inr z, hc, ha => cases ha
theorem mr_iast (cx : mm_cx E D dA p s mth args meth c m) (hr : mm_rel E D dA h H) (hS : va_S (mm_A E) s.heap H locs) {a n : Nat} {f : Nat → Int32} {i x : Int32} (ha : h.2.2 a = some (.inl (1, n, .inl f))) (hin : mm_in i n = true) (hdg : decode (mm_by m) pc = .ok (.iastore, 1))
    (kk : ∀ (H1 : Heap) (locs1 : List Loc), mm_rel E D dA (mm_set h a (.inl (1, n, .inl (upd f i.toNatClampNeg x)))) H1 → va_S (mm_A E) s.heap H1 locs1 → W p l e R s mth args below meth c H1 locs1 cells slots Q (F0 mth (pc + 1) ls rest)) : W p l e R s mth args below meth c H locs cells slots Q (F0 mth pc ls (.int x :: .int i :: .ref a :: rest)) := by
  obtain ⟨hx, hb, -, -, hown, hts, -, -, hK, hE⟩ := cx
  have hA := (hr.2.2 a _ ha).1
  refine W.iast hx hb (mr_tcase hr ha) ((hK.2 1 _ rfl).1 n (fun j => .int (f j))) (fun q => by cases q) (by show ¬ (i < 0 ∨ (arrV _ _ _).slots.size ≤ _); rw [arrV_size]; exact mr_in hin) rfl rfl hdg fun H1 e z oq => ?_
  refine kk H1 _ (hr.set ha rfl ⟨by decide, fun h0 => by cases h0⟩ z oq ?_) (hS.put z oq hA)
  show H1[a]? = some (vp_cell _ _)
  rw [e]
  rw [vp_cell_i, vp_cell_i, arrV_store]
  congr 2
  funext q
  by_cases hq : q = i.toNatClampNeg
  · subst hq
    simp [updV, upd]
  · simp [updV, upd, hq]
theorem mr_bast (cx : mm_cx E D dA p s mth args meth c m) (hr : mm_rel E D dA h H) (hS : va_S (mm_A E) s.heap H locs) {a t n : Nat} {f : Nat → Int32} {i x : Int32} (ha : h.2.2 a = some (.inl (t, n, .inl f))) (ht : t = 0 ∨ t = 2) (hin : mm_in i n = true) (hdg : decode (mm_by m) pc = .ok (.bastore, 1))
    (kk : ∀ (H1 : Heap) (locs1 : List Loc), mm_rel E D dA (mm_set h a (.inl (t, n, .inl (upd f i.toNatClampNeg (mm_nar t x))))) H1 → va_S (mm_A E) s.heap H1 locs1 → W p l e R s mth args below meth c H1 locs1 cells slots Q (F0 mth (pc + 1) ls rest)) : W p l e R s mth args below meth c H locs cells slots Q (F0 mth pc ls (.int x :: .int i :: .ref a :: rest)) := by
  obtain ⟨hx, hb, -, -, hown, hts, -, -, hK, hE⟩ := cx
  have hA := (hr.2.2 a _ ha).1
  have hok := (hr.2.2 a _ ha).2.2
  rcases ht with rfl | rfl
  · refine W.bast hx hb (mr_tcase hr ha) ((hK.2 0 _ rfl).1 n (fun j => .int (f j))) (fun q => by cases q) (by show ¬ (i < 0 ∨ (arrV _ _ _).slots.size ≤ _); rw [arrV_size]; exact mr_in hin) rfl rfl hdg fun H1 e z oq => ?_
    refine kk H1 _ (hr.set ha rfl ⟨by decide, fun h0 j => ?_⟩ z oq ?_) (hS.put z oq hA)
    · by_cases hj : j = i.toNatClampNeg
      · subst hj
        simp only [upd, if_true, mm_nar, vp_nar_byte]
        exact pk_vb x
      · simp only [upd, hj, if_false]
        exact hok.2 rfl j
    · show H1[a]? = some (vp_cell _ _)
      rw [e]
      rw [vp_cell_i, vp_cell_i, arrV_store]
      congr 2
      funext q
      by_cases hq : q = i.toNatClampNeg
      · subst hq
        simp [updV, upd, mm_nar, vp_nar]
        try rfl
      · simp [updV, upd, hq]
  · refine W.zast hx hb (mr_tcase hr ha) ((hK.2 2 _ rfl).1 n (fun j => .int (f j))) (fun q => by cases q) (by show ¬ (i < 0 ∨ (arrV _ _ _).slots.size ≤ _); rw [arrV_size]; exact mr_in hin) rfl rfl hdg fun H1 e z oq => ?_
    refine kk H1 _ (hr.set ha rfl ⟨by decide, fun h0 => by cases h0⟩ z oq ?_) (hS.put z oq hA)
    · show H1[a]? = some (vp_cell _ _)
      rw [e]
      rw [vp_cell_i, vp_cell_i, arrV_store]
      congr 2
      funext q
      by_cases hq : q = i.toNatClampNeg
      · subst hq
        simp [updV, upd, mm_nar, vp_nar]
        try rfl
      · simp [updV, upd, hq]
theorem mr_aald (cx : mm_cx E D dA p s mth args meth c m) (hr : mm_rel E D dA h H) {a t n : Nat} {f : Nat → Option Nat} {i : Int32} (ha : h.2.2 a = some (.inl (t, n, .inr (.inr (.inr (.inr f)))))) (hin : mm_in i n = true) (hdg : decode (mm_by m) pc = .ok (.aaload, 1))
    (kk : W p l e R s mth args below meth c H locs cells slots Q (F0 mth (pc + 1) ls (va_rf (f i.toNatClampNeg) :: rest))) : W p l e R s mth args below meth c H locs cells slots Q (F0 mth pc ls (.int i :: .ref a :: rest)) := by
  obtain ⟨hx, hb, -, -, hown, hts, -, -, hK, hE⟩ := cx
  rcases (hr.2.2 a _ ha).2.2.1 with rfl | rfl
  · exact va_aldq hx hb hK (mr_P1 (hr.2.2 a _ ha).2.1) 0 3 rfl rfl (mr_in hin) hdg kk
  · exact va_aldq hx hb hK (mr_P1 (hr.2.2 a _ ha).2.1) 0 4 rfl rfl (mr_in hin) hdg kk
end MR
