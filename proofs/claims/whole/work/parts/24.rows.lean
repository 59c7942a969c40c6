section MR
variable {p : Program} {l : Launch} {e : Env} {R : Room} {s : State} {mth : MethodId} {args : Array Value} {below : List Frame} {meth : Method} {c : Code} {H : Heap} {locs : List Loc} {cells slots : Nat} {Q : State → Prop} {E : mmE} {D : va_G} {dA : Nat → ClassId} {m pc : Nat} {ls : Array Slot} {rest : List Value} {h : mmH}
theorem mm_w_nat : Cond.native arraycopyName ∈ mm_tbl := by decide +kernel
theorem mm_w_st : Cond.static arraycopyName ∈ mm_tbl := by decide +kernel
theorem mm_w_sys : Cond.initialized "java/lang/System" ∈ mm_tbl := by decide +kernel
theorem mr_cl {z : Int32} (hz : ¬ z < 0) : z.toInt = (z.toNatClampNeg : Int) := by
  have h1 := Int32.not_lt.mp hz
  rw [Int32.le_iff_toInt_le, Int32.toInt_zero] at h1
  show z.toInt = ((z.toInt.toNat : Nat) : Int)
  omega
theorem mr_nfw : nativeFrameWords "java/lang/System" "arraycopy" 5 ≤ 40 := by decide +kernel
theorem mr_setS (hS : va_S (mm_A E) s.heap H locs) {a : Nat} {x : Cell} {L : List Loc} (hA : E.1 ≤ a) (hL : ∀ q ∈ L, q.base = a) : va_S (mm_A E) s.heap (H.setIfInBounds a x) (locs ++ L) := by
  refine ⟨by rw [Array.size_setIfInBounds]; exact hS.1, fun q h1 h2 => ?_, fun q hq => ?_⟩
  · have hne : a ≠ q := fun e => h2 (by rw [← e]; exact hA)
    rw [Array.getElem?_setIfInBounds_ne hne]
    exact hS.2.1 q h1 h2
  · rcases List.mem_append.mp hq with h | h
    · exact hS.2.2 q h
    · show E.1 ≤ q.base
      rw [hL q h]
      exact hA
theorem mr_copyI (cx : mm_cx E D dA p s mth args meth c m) (hr : mm_rel E D dA h H) (hS : va_S (mm_A E) s.heap H locs) {a b t n0 n1 idx : Nat} {f g : Nat → Int32} {sp dp n : Int32} (hb0 : h.2.2 b = some (.inl (t, n0, .inl f))) (ha : h.2.2 a = some (.inl (t, n1, .inl g))) (ht : t < 2)
    (h1 : ¬ sp < 0) (h2 : ¬ dp < 0) (h3 : ¬ n < 0) (h4 : sp.toNatClampNeg + n.toNatClampNeg ≤ n0) (h5 : dp.toNatClampNeg + n.toNatClampNeg ≤ n1) (hsum : mm_sum rest ≤ 8) (hl : Cond.methodLink (mm_own m) idx arraycopyName ∈ mm_tbl) (hsz : ls.size = mm_maxL m) (hfr : 1 ≤ R.frames) (hlo : 60 ≤ R.locals) (hdg : decode (mm_by m) pc = .ok (.invokestatic idx, 3))
    (kk : ∀ (H1 : Heap) (locs1 : List Loc), mm_rel E D dA (mm_set h a (.inl (t, n1, .inl (va_cpy f g sp.toNatClampNeg dp.toNatClampNeg n.toNatClampNeg)))) H1 → va_S (mm_A E) s.heap H1 locs1 → W p l e R s mth args below meth c H1 locs1 cells slots Q (F0 mth (pc + 3) ls rest)) : W p l e R s mth args below meth c H locs cells slots Q (F0 mth pc ls (.int n :: .int dp :: .ref a :: .int sp :: .ref b :: rest)) := by
  obtain ⟨hx, hb, -, hml, hown, hts, -, -, hK, hE⟩ := cx
  have hA := (hr.2.2 a _ ha).1
  have hokf := (hr.2.2 b _ hb0).2.2
  have hokg := (hr.2.2 a _ ha).2.2
  have hcb := mr_tcase hr hb0
  have hca := mr_tcase hr ha
  have hAr := (hK.2 t _ (mr_ty (by omega))).1
  have hw := mr_nfw
  intro T hT X
  obtain ⟨-, k0, hk0, cm0, hkk0⟩ := hAr n0 (fun j => .int (f j))
  have hfit : ∀ j, fits (mm_aty t) (.int (f j)) = true := by
    intro j
    match t, ht, hokf with
    | 0, _, hokf => rw [← hokf.2 rfl j]; exact pk_fb _
    | 1, _, _ => rfl
  obtain ⟨vm', X', step⟩ := X.arraycopy hx hown (hts _ hl) (hts _ mm_w_nat) (hts _ mm_w_st) (hts _ mm_w_sys) (src := b) (dst := a) (cs := vp_cell (dA t) (n0, .inl f)) (cd := vp_cell (dA t) (n1, .inl g)) (srcPos := sp) (destPos := dp) (n := n) (by rw [hT]; exact hcb) (by rw [hT]; exact hca)
    (fun _ h => by cases h) (fun _ h => by cases h) (fun h => by cases h) (fun h => by cases h) hk0 hk0 hkk0 hkk0 (by
      match t, ht with
      | 0, _ => simp [mm_aty, refKind]
      | 1, _ => simp [mm_aty, refKind]) h1 h2 h3
    (by rw [mr_cl h1, mr_cl h3]; show ¬ _ > ((arrV _ n0 (fun j => .int (f j))).slots.size : Int); rw [arrV_size]; omega)
    (by rw [mr_cl h2, mr_cl h3]; show ¬ _ > ((arrV _ n1 (fun j => .int (g j))).slots.size : Int); rw [arrV_size]; omega)
    (fun vm₁ _ i hi => by
      have e : (vp_cell (dA t) (n0, .inl f)).slots.getD (sp.toNatClampNeg + i) .null = .int (f (sp.toNatClampNeg + i)) := by
        show (arrV (dA t) n0 (fun j => .int (f j))).slots.getD _ _ = _
        rw [Array.getD_eq_getD_getElem?, arrV_read _ _ (by omega)]
        rfl
      rw [e]
      exact ⟨hfit _, trivial⟩)
    (g := F0 mth pc ls (.int n :: .int dp :: .ref a :: .int sp :: .ref b :: rest)) rfl (by rw [hml]; exact hsz) (rest := rest) rfl (by rw [hb]; exact hdg) hfr (by show 2 * 0 + mm_sum rest + _ ≤ _; omega)
  have e1 : copied (vp_cell (dA t) (n0, .inl f)) (vp_cell (dA t) (n1, .inl g)) sp dp n = vp_cell (dA t) (n1, .inl (va_cpy f g sp.toNatClampNeg dp.toNatClampNeg n.toNatClampNeg)) := va_copied (fun z => .int z) _ _ f g h4
  rw [e1] at X' step
  have hlt : a < H.size := (Array.getElem?_eq_some_iff.mp hca).1
  obtain ⟨t2, a1, b1⟩ := kk (H.setIfInBounds a (vp_cell (dA t) (n1, .inl (va_cpy f g sp.toNatClampNeg dp.toNatClampNeg n.toNatClampNeg)))) _ (hr.set ha rfl ⟨hokg.1, fun h0 j => by
      unfold va_cpy
      split
      · exact hokf.2 h0 _
      · exact hokg.2 h0 _⟩ (by simp) (fun q hq => by simp [Array.getElem?_setIfInBounds, Ne.symm hq]) (show (H.setIfInBounds a _)[a]? = some _ by simp [Array.getElem?_setIfInBounds, hlt])) (mr_setS hS hA (fun q hq => by
      obtain ⟨z, -, hz⟩ := List.mem_map.mp hq
      rw [← hz])) _ (by rw [← hT]; rfl) X'
  exact ⟨t2, step t2 a1, b1⟩
theorem mr_copyR (cx : mm_cx E D dA p s mth args meth c m) (hr : mm_rel E D dA h H) (hS : va_S (mm_A E) s.heap H locs) {a b n0 n1 idx : Nat} {f g : Nat → Option Nat} {sp dp n : Int32} (hb0 : h.2.2 b = some (.inl (3, n0, .inr (.inr (.inr (.inr f)))))) (ha : h.2.2 a = some (.inl (3, n1, .inr (.inr (.inr (.inr g))))))
    (h1 : ¬ sp < 0) (h2 : ¬ dp < 0) (h3 : ¬ n < 0) (h4 : sp.toNatClampNeg + n.toNatClampNeg ≤ n0) (h5 : dp.toNatClampNeg + n.toNatClampNeg ≤ n1) (hsum : mm_sum rest ≤ 8) (hl : Cond.methodLink (mm_own m) idx arraycopyName ∈ mm_tbl) (hsz : ls.size = mm_maxL m) (hfr : 1 ≤ R.frames) (hlo : 60 ≤ R.locals) (hdg : decode (mm_by m) pc = .ok (.invokestatic idx, 3))
    (kk : ∀ (H1 : Heap) (locs1 : List Loc), mm_rel E D dA (mm_set h a (.inl (3, n1, .inr (.inr (.inr (.inr (va_cpy f g sp.toNatClampNeg dp.toNatClampNeg n.toNatClampNeg))))))) H1 → va_S (mm_A E) s.heap H1 locs1 → W p l e R s mth args below meth c H1 locs1 cells slots Q (F0 mth (pc + 3) ls rest)) : W p l e R s mth args below meth c H locs cells slots Q (F0 mth pc ls (.int n :: .int dp :: .ref a :: .int sp :: .ref b :: rest)) := by
  obtain ⟨hx, hb, -, hml, hown, hts, -, -, hK, hE⟩ := cx
  have hA := (hr.2.2 a _ ha).1
  have hokf := (hr.2.2 b _ hb0).2.2
  have hokg := (hr.2.2 a _ ha).2.2
  have hcb := mr_tcase hr hb0
  have hca := mr_tcase hr ha
  have hAr := (hK.2 3 _ rfl).1
  have hw := mr_nfw
  have hany : ∀ j y, f j = some y → va_Any "java/lang/Object" s H y := fun j y hj => mr_any hK hE hr (hokf.2 j y hj)
  intro T hT X
  obtain ⟨-, k0, hk0, cm0, hkk0⟩ := hAr n0 (fun j => va_rf (f j))
  obtain ⟨vm', X', step⟩ := X.arraycopy hx hown (hts _ hl) (hts _ mm_w_nat) (hts _ mm_w_st) (hts _ mm_w_sys) (src := b) (dst := a) (cs := vp_cell (dA 3) (n0, .inr (.inr (.inr (.inr f))))) (cd := vp_cell (dA 3) (n1, .inr (.inr (.inr (.inr g))))) (srcPos := sp) (destPos := dp) (n := n) (by rw [hT]; exact hcb) (by rw [hT]; exact hca)
    (fun _ h => by cases h) (fun _ h => by cases h) (fun h => by cases h) (fun h => by cases h) hk0 hk0 hkk0 hkk0 rfl h1 h2 h3
    (by rw [mr_cl h1, mr_cl h3]; show ¬ _ > ((arrV _ n0 (fun j => va_rf (f j))).slots.size : Int); rw [arrV_size]; omega)
    (by rw [mr_cl h2, mr_cl h3]; show ¬ _ > ((arrV _ n1 (fun j => va_rf (g j))).slots.size : Int); rw [arrV_size]; omega)
    (fun vm₁ hal i hi => by
      have e : (vp_cell (dA 3) (n0, .inr (.inr (.inr (.inr f))))).slots.getD (sp.toNatClampNeg + i) .null = va_rf (f (sp.toNatClampNeg + i)) := by
        show (arrV (dA 3) n0 (fun j => va_rf (f j))).slots.getD _ _ = _
        rw [Array.getD_eq_getD_getElem?, arrV_read _ _ (by omega)]
        rfl
      rw [e]
      cases hy : f (sp.toNatClampNeg + i) with
      | none => exact ⟨rfl, trivial⟩
      | some y =>
        obtain ⟨cellV, g1, g2, ⟨kC, hkC⟩, hasg⟩ := hany _ y hy
        obtain ⟨kA, comp, r1, r2, r3, -⟩ := (hK.2 3 _ rfl).2
        cases hk0.symm.trans r1
        cases hkk0.symm.trans r2
        obtain ⟨kE, hkE, -⟩ := Vm.findClass_spec r3
        obtain ⟨kC', hkC', -⟩ := hal.2.2 _ _ hkC
        obtain ⟨kE', hkE', -⟩ := hal.2.2 _ _ hkE
        refine ⟨rfl, cellV, (show T.heap[y]? = some cellV by rw [hT]; exact g1), (fun q h => by rw [h] at g2; cases g2), ⟨kC', hkC'⟩, ⟨kE', hkE'⟩, ?_⟩
        show vm₁.assignable _ _ = true
        rw [hal.assignable]
        exact hasg _ r3)
    (g := F0 mth pc ls (.int n :: .int dp :: .ref a :: .int sp :: .ref b :: rest)) rfl (by rw [hml]; exact hsz) (rest := rest) rfl (by rw [hb]; exact hdg) hfr (by show 2 * 0 + mm_sum rest + _ ≤ _; omega)
  have e1 : copied (vp_cell (dA 3) (n0, .inr (.inr (.inr (.inr f))))) (vp_cell (dA 3) (n1, .inr (.inr (.inr (.inr g))))) sp dp n = vp_cell (dA 3) (n1, .inr (.inr (.inr (.inr (va_cpy f g sp.toNatClampNeg dp.toNatClampNeg n.toNatClampNeg))))) := by
    rw [vp_cell_q, vp_cell_q, vp_cell_q]
    exact va_copied (fun z => va_rf z) _ _ f g h4
  rw [e1] at X' step
  have hlt : a < H.size := (Array.getElem?_eq_some_iff.mp hca).1
  obtain ⟨t2, a1, b1⟩ := kk (H.setIfInBounds a (vp_cell (dA 3) (n1, .inr (.inr (.inr (.inr (va_cpy f g sp.toNatClampNeg dp.toNatClampNeg n.toNatClampNeg))))))) _ (hr.set ha rfl ⟨hokg.1, fun j y hj => by
      unfold va_cpy at hj
      split at hj
      · exact hokf.2 _ y hj
      · exact hokg.2 _ y hj⟩ (by simp) (fun q hq => by simp [Array.getElem?_setIfInBounds, Ne.symm hq]) (show (H.setIfInBounds a _)[a]? = some _ by simp [Array.getElem?_setIfInBounds, hlt])) (mr_setS hS hA (fun q hq => by
      obtain ⟨z, -, hz⟩ := List.mem_map.mp hq
      rw [← hz])) _ (by rw [← hT]; rfl) X'
  exact ⟨t2, step t2 a1, b1⟩
end MR
