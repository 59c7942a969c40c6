section MR
variable {p : Program} {l : Launch} {e : Env} {R : Room} {s : State} {mth : MethodId} {args : Array Value} {below : List Frame} {meth : Method} {c : Code} {H : Heap} {locs : List Loc} {cells slots : Nat} {Q : State → Prop} {E : mmE} {D : va_G} {dA : Nat → ClassId} {m pc : Nat} {ls : Array Slot} {rest : List Value} {h : mmH}
theorem mr_obj (hK : va_K D mm_cls (mm_tys dA) s) (hr : mm_rel E D dA h H) {a ci : Nat} {fs : List Value} (ha : h.2.2 a = some (.inr (ci, fs))) : ∃ (C : String) (T : u_T) (N : Nat) (cell : Cell), mm_cls[ci]? = some (C, T, N) ∧ H[a]? = some cell ∧ cell.vm.isStatics = false ∧ s.vm.findClass C = some cell.cls := by
  obtain ⟨q, h1, -⟩ := (hr.2.2 a _ ha).2.1
  obtain ⟨cell, g1, g2, g3⟩ := va_recv hK (mr_P1 (hr.2.2 a _ ha).2.1) h1 (q0 := 0) rfl
  obtain ⟨C, T, N⟩ := q
  exact ⟨C, T, N, cell, h1, g1, g2, g3⟩
theorem mm_casO : ∀ ci, ci < 11 → ci ≠ 3 → ∀ q, mm_cls[ci]? = some q → Cond.castable q.1 "java/lang/Object" ∈ lw_tbl := by
  intro ci hci h3 q hq
  match ci, hq with
  | 0, hq => cases hq; decide +kernel
  | 1, hq => cases hq; decide +kernel
  | 2, hq => cases hq; decide +kernel
  | 3, hq => exact absurd rfl h3
  | 4, hq => cases hq; decide +kernel
  | 5, hq => cases hq; decide +kernel
  | 6, hq => cases hq; decide +kernel
  | 7, hq => cases hq; decide +kernel
  | 8, hq => cases hq; decide +kernel
  | 9, hq => cases hq; decide +kernel
  | 10, hq => cases hq; decide +kernel
  | k + 11, _ => omega
end MR
section MR
variable {p : Program} {l : Launch} {e : Env} {R : Room} {s : State} {mth : MethodId} {args : Array Value} {below : List Frame} {meth : Method} {c : Code} {H : Heap} {locs : List Loc} {cells slots : Nat} {Q : State → Prop} {E : mmE} {D : va_G} {dA : Nat → ClassId} {m pc : Nat} {ls : Array Slot} {rest : List Value} {h : mmH}
theorem mr_any (hK : va_K D mm_cls (mm_tys dA) s) (hE : mm_env E s s.heap) (hr : mm_rel E D dA h H) {t y : Nat} (hm : mm_may h t y = true) : va_Any (mm_obn t) s H y := by
  unfold mm_may at hm
  cases hc : h.2.2 y with
  | none => rw [hc] at hm; cases hm
  | some z =>
    rw [hc] at hm
    match z, hc, hm with
    | .inl x, hc, hm => cases hm
    | .inr (ci, fs), hc, hm =>
      obtain ⟨C, T, N, cell, h1, g1, g2, g3⟩ := mr_obj hK hr hc
      obtain ⟨kC, hkC, -⟩ := Vm.findClass_spec g3
      simp only [Bool.or_eq_true, Bool.and_eq_true, beq_iff_eq, bne_iff_ne, ne_eq] at hm
      refine ⟨cell, g1, g2, ⟨kC, hkC⟩, fun comp hcomp => ?_⟩
      rcases hm with ⟨rfl, h3⟩ | ⟨rfl, rfl⟩
      · obtain ⟨c0, t0, f1, f2, f3⟩ := Cond.castable_spec (va_Nw.use (A := #[]) rfl (hE.2.2.2.2.2.1 _ _ (mm_casO ci (mm_cls_lt h1) h3 _ h1)))
        cases f1.symm.trans g3
        cases f2.symm.trans hcomp
        exact f3
      · cases h1
        cases g3.symm.trans hcomp
        exact va_asg _ _
theorem mr_aast (cx : mm_cx E D dA p s mth args meth c m) (hr : mm_rel E D dA h H) (hS : va_S (mm_A E) s.heap H locs) {a t n v : Nat} {f : Nat → Option Nat} {i : Int32} (ha : h.2.2 a = some (.inl (t, n, .inr (.inr (.inr (.inr f)))))) (hm : mm_may h t v = true) (hin : mm_in i n = true) (hdg : decode (mm_by m) pc = .ok (.aastore, 1))
    (kk : ∀ (H1 : Heap) (locs1 : List Loc), mm_rel E D dA (mm_set h a (.inl (t, n, .inr (.inr (.inr (.inr (va_up f i.toNatClampNeg (some v)))))))) H1 → va_S (mm_A E) s.heap H1 locs1 → W p l e R s mth args below meth c H1 locs1 cells slots Q (F0 mth (pc + 1) ls rest)) : W p l e R s mth args below meth c H locs cells slots Q (F0 mth pc ls (.ref v :: .int i :: .ref a :: rest)) := by
  obtain ⟨hx, hb, -, -, hown, hts, -, -, hK, hE⟩ := cx
  have hA := (hr.2.2 a _ ha).1
  have hok := (hr.2.2 a _ ha).2.2
  have hi := mr_in hin
  have hlt : i.toNatClampNeg < n := Nat.not_le.mp fun q => hi (Or.inr q)
  have h0 : ¬ i < 0 := fun q => hi (Or.inl q)
  obtain ⟨cellV, g1, g3, ⟨kC, hkC⟩, hasg⟩ := mr_any hK hE hr hm
  have hRA : va_RA s (dA t) (.object (mm_obn t)) := by
    rcases hok.1 with rfl | rfl
    · exact (hK.2 3 _ rfl).2
    · exact (hK.2 4 _ rfl).2
  obtain ⟨kA, comp, k1, k2, k3, -⟩ := hRA
  obtain ⟨kE, hkE, -⟩ := Vm.findClass_spec k3
  refine W.aast hx hb (mr_tcase hr ha) (fun q h => by cases h) (fun h => by cases h) k1 k2 rfl hkE ⟨h0, by show _ < (arrV _ _ _).slots.size; rw [arrV_size]; exact hlt⟩ g1 (fun q h => by rw [h] at g3; cases g3) hkC (hasg _ k3) rfl rfl hdg fun H1 e z oq => ?_
  refine kk H1 _ (hr.set ha rfl ⟨hok.1, fun j y hj => ?_⟩ z oq ?_) (hS.put z oq hA)
  · by_cases hq : j = i.toNatClampNeg
    · subst hq
      rw [va_up_self] at hj
      cases hj
      exact hm
    · rw [va_up_ne _ _ hq] at hj
      exact hok.2 j y hj
  · show H1[a]? = some (vp_cell _ _)
    rw [e]
    rw [vp_cell_q, vp_cell_q, arrV_store]
    congr 2
    funext q
    by_cases hq : q = i.toNatClampNeg
    · subst hq
      simp [updV, va_up, va_rf]
    · simp [updV, va_up, hq]
theorem mr_aastN (cx : mm_cx E D dA p s mth args meth c m) (hr : mm_rel E D dA h H) (hS : va_S (mm_A E) s.heap H locs) {a t n : Nat} {f : Nat → Option Nat} {i : Int32} (ha : h.2.2 a = some (.inl (t, n, .inr (.inr (.inr (.inr f)))))) (hin : mm_in i n = true) (hdg : decode (mm_by m) pc = .ok (.aastore, 1))
    (kk : ∀ (H1 : Heap) (locs1 : List Loc), mm_rel E D dA (mm_set h a (.inl (t, n, .inr (.inr (.inr (.inr (va_up f i.toNatClampNeg none))))))) H1 → va_S (mm_A E) s.heap H1 locs1 → W p l e R s mth args below meth c H1 locs1 cells slots Q (F0 mth (pc + 1) ls rest)) : W p l e R s mth args below meth c H locs cells slots Q (F0 mth pc ls (.null :: .int i :: .ref a :: rest)) := by
  obtain ⟨hx, hb, -, -, hown, hts, -, -, hK, hE⟩ := cx
  have hA := (hr.2.2 a _ ha).1
  have hok := (hr.2.2 a _ ha).2.2
  have hAr : ArrOfT s (dA t) (.object (mm_obn t)) := by
    rcases hok.1 with rfl | rfl
    · exact (hK.2 3 _ rfl).1
    · exact (hK.2 4 _ rfl).1
  refine va_WaastN (C := mm_obn t) hx hb (mr_tcase hr ha) (hAr n (fun j => va_rf (f j))) (fun h => by cases h) (by show ¬ (i < 0 ∨ (arrV _ _ _).slots.size ≤ _); rw [arrV_size]; exact mr_in hin) rfl rfl hdg fun H1 e z oq => ?_
  refine kk H1 _ (hr.set ha rfl ⟨hok.1, fun j y hj => ?_⟩ z oq ?_) (hS.put z oq hA)
  · by_cases hq : j = i.toNatClampNeg
    · subst hq
      rw [va_up_self] at hj
      cases hj
    · rw [va_up_ne _ _ hq] at hj
      exact hok.2 j y hj
  · show H1[a]? = some (vp_cell _ _)
    rw [e]
    rw [vp_cell_q, vp_cell_q, arrV_store]
    congr 2
    funext q
    by_cases hq : q = i.toNatClampNeg
    · subst hq
      simp [updV, va_up, va_rf]
    · simp [updV, va_up, hq]
theorem mr_S1 {H1 : Heap} (hS : va_S (mm_A E) s.heap H locs) (hz : H1.size = H.size + 1) (o1 : ∀ q : Nat, q < H.size → H1[q]? = H[q]?) : va_S (mm_A E) s.heap H1 locs := ⟨Nat.le_trans hS.1 (by omega), fun x h1 h2 => (o1 x (Nat.lt_of_lt_of_le h1 hS.1)).trans (hS.2.1 x h1 h2), hS.2.2⟩
theorem mr_new (cx : mm_cx E D dA p s mth args meth c m) (hr : mm_rel E D dA h H) (hS : va_S (mm_A E) s.heap H locs) {ci idx N : Nat} {C : String} {T : u_T} (hc : mm_cls[ci]? = some (C, T, N)) (hl : Cond.classLink (mm_own m) idx C ∈ mm_tbl) (hi : Cond.instantiable C N ∈ mm_tbl) (hn : Cond.initialized C ∈ mm_tbl) (hcells : cells + 1 ≤ R.cells) (hslots : slots + N ≤ R.slots) (hdg : decode (mm_by m) pc = .ok (.new idx, 3))
    (kk : ∀ (H1 : Heap), mm_rel E D dA (mm_new h N (.inr (ci, mm_defs ci))) H1 → va_S (mm_A E) s.heap H1 locs → W p l e R s mth args below meth c H1 locs (cells + 1) (slots + N) Q (F0 mth (pc + 3) ls (.ref h.1 :: rest))) : W p l e R s mth args below meth c H locs cells slots Q (F0 mth pc ls rest) := by
  obtain ⟨hx, hb, -, -, hown, hts, -, -, hK, hE⟩ := cx
  have hKn := hK.1 ci _ hc
  refine W.newcK hx hb hown (hts _ hl) (hts _ hi) (hts _ hn) rfl hdg hcells hslots hKn.2.1 hr.1 fun H1 kC hkC e1 z1 o1 => ?_
  rw [← hr.1] at z1 o1
  exact kk H1 (hr.new trivial z1 o1 ⟨_, hc, (u_born _ hts (mm_uws hc) hKn hkC e1 (mm_tyd ci (mm_cls_lt hc) _ hc)).to (mm_dfd ci (mm_cls_lt hc) _ hc)⟩) (mr_S1 hS z1 o1)
theorem mr_newa (cx : mm_cx E D dA p s mth args meth c m) (hr : mm_rel E D dA h H) (hS : va_S (mm_A E) s.heap H locs) {t : Nat} {at_ : ArrayType} {n : Int32} (ht : t < 3) (hty : newarray.typeOf at_ = mm_aty t) (hn : ¬ (n < 0 ∨ 1000000 < n)) (hcells : cells + 1 ≤ R.cells) (hslots : slots + n.toNatClampNeg ≤ R.slots) (hdg : decode (mm_by m) pc = .ok (.newarray at_, 2))
    (kk : ∀ (H1 : Heap), mm_rel E D dA (mm_new h n.toNatClampNeg (.inl (t, n.toNatClampNeg, .inl fun _ => 0))) H1 → va_S (mm_A E) s.heap H1 locs → W p l e R s mth args below meth c H1 locs (cells + 1) (slots + n.toNatClampNeg) Q (F0 mth (pc + 2) ls (.ref h.1 :: rest))) : W p l e R s mth args below meth c H locs cells slots Q (F0 mth pc ls (.int n :: rest)) := by
  obtain ⟨hx, hb, -, -, hown, hts, -, -, hK, hE⟩ := cx
  have harr : (Cond.arrayClass (newarray.typeOf at_)).before args s = true := by
    rw [hty]
    refine hts _ ?_
    match t, ht with
    | 0, _ => decide +kernel
    | 1, _ => decide +kernel
    | 2, _ => decide +kernel
  have hle : n.toNatClampNeg ≤ 1000000 := by
    have h2 : ¬ (1000000 : Int32) < n := fun q => hn (Or.inr q)
    rw [Int32.lt_iff_toInt_lt] at h2
    show n.toInt.toNat ≤ 1000000
    have : (1000000 : Int32).toInt = 1000000 := by decide
    omega
  have hcb : componentBytes (newarray.typeOf at_) ≤ 8 := by cases at_ <;> decide
  have hbytes : n.toNatClampNeg * componentBytes (newarray.typeOf at_) ≤ 536870912 := Nat.le_trans (Nat.mul_le_mul hle hcb) (by decide)
  refine va_newaK hx hb harr rfl hdg rfl (fun q => hn (Or.inl q)) rfl hbytes hcells hslots hr.1 fun H1 cA e1 z1 o1 hAr hNm => ?_
  rw [← hr.1] at z1 o1
  have hcA : cA = dA t := by
    have h2 := (hK.2 t _ (mr_ty (by omega))).2
    rw [hty] at hNm
    match t, ht, h2, hNm with
    | 0, _, h2, hNm => exact Option.some.inj (hNm.symm.trans h2)
    | 1, _, h2, hNm => exact Option.some.inj (hNm.symm.trans h2)
    | 2, _, h2, hNm => exact Option.some.inj (hNm.symm.trans h2)
  subst hcA
  refine kk H1 (hr.new ⟨ht, fun _ _ => rfl⟩ z1 o1 ?_) (mr_S1 hS z1 o1)
  show H1[h.1]? = some (vp_cell _ _)
  rw [e1, vp_cell_i, hty]
  match t, ht with
  | 0, _ => rfl
  | 1, _ => rfl
  | 2, _ => rfl
theorem mr_anew (cx : mm_cx E D dA p s mth args meth c m) (hr : mm_rel E D dA h H) (hS : va_S (mm_A E) s.heap H locs) {t idx : Nat} {n : Int32} (ht : t = 3 ∨ t = 4) (hl : Cond.classLink (mm_own m) idx (mm_obn t) ∈ mm_tbl) (hn : ¬ (n < 0 ∨ 1000000 < n)) (hcells : cells + 1 ≤ R.cells) (hslots : slots + n.toNatClampNeg ≤ R.slots) (hdg : decode (mm_by m) pc = .ok (.anewarray idx, 3))
    (kk : ∀ (H1 : Heap), mm_rel E D dA (mm_new h n.toNatClampNeg (.inl (t, n.toNatClampNeg, .inr (.inr (.inr (.inr fun _ => none)))))) H1 → va_S (mm_A E) s.heap H1 locs → W p l e R s mth args below meth c H1 locs (cells + 1) (slots + n.toNatClampNeg) Q (F0 mth (pc + 3) ls (.ref h.1 :: rest))) : W p l e R s mth args below meth c H locs cells slots Q (F0 mth pc ls (.int n :: rest)) := by
  obtain ⟨hx, hb, -, -, hown, hts, -, -, hK, hE⟩ := cx
  have hle : n.toNatClampNeg ≤ 1000000 := by
    have h2 : ¬ (1000000 : Int32) < n := fun q => hn (Or.inr q)
    rw [Int32.lt_iff_toInt_lt] at h2
    show n.toInt.toNat ≤ 1000000
    have : (1000000 : Int32).toInt = 1000000 := by decide
    omega
  have hov : va_AO (mm_obn t) s := by
    rcases ht with rfl | rfl
    · exact hE.2.2.2.2.2.2.2.1
    · exact hE.2.2.2.2.2.2.2.2
  refine W.anew hx hb hown (hts _ hl) (va_AO.use hov) rfl hdg rfl (fun q => hn (Or.inl q)) (by omega) hcells hslots fun cA kA comp f1 f2 f3 f4 => ?_
  have hcA : cA = dA t := by
    rcases ht with rfl | rfl
    · obtain ⟨_, _, _, _, _, q⟩ := (hK.2 3 _ rfl).2
      exact Option.some.inj (f1.symm.trans q)
    · obtain ⟨_, _, _, _, _, q⟩ := (hK.2 4 _ rfl).2
      exact Option.some.inj (f1.symm.trans q)
  subst hcA
  have z1 : (H.push ({ cls := dA t, slots := Array.replicate n.toNatClampNeg .null, vm := .none } : Cell)).size = H.size + 1 := Array.size_push _
  have o1 : ∀ q : Nat, q < H.size → (H.push ({ cls := dA t, slots := Array.replicate n.toNatClampNeg .null, vm := .none } : Cell))[q]? = H[q]? := fun q hq => by rw [Array.getElem?_push, if_neg (Nat.ne_of_lt hq)]
  rw [hr.1]
  refine kk _ (hr.new ⟨ht, fun j y hj => by cases hj⟩ z1 o1 ?_) (mr_S1 hS z1 o1)
  show (H.push _)[h.1]? = some (vp_cell _ _)
  rw [← hr.1, Array.getElem?_push_size, vp_cell_q, arrV_new]
  rfl
theorem mr_castO (cx : mm_cx E D dA p s mth args meth c m) (hr : mm_rel E D dA h H) {a ci idx : Nat} {fs : List Value} (ha : h.2.2 a = some (.inr (ci, fs))) (hl : Cond.classLink (mm_own m) idx (mm_cnm (ci + 1)) ∈ mm_tbl) (hdg : decode (mm_by m) pc = .ok (.checkcast idx, 3))
    (kk : W p l e R s mth args below meth c H locs cells slots Q (F0 mth (pc + 3) ls (.ref a :: rest))) : W p l e R s mth args below meth c H locs cells slots Q (F0 mth pc ls (.ref a :: rest)) := by
  obtain ⟨hx, hb, -, -, hown, hts, -, -, hK, hE⟩ := cx
  obtain ⟨C, T, N, cell, h1, g1, g2, g3⟩ := mr_obj hK hr ha
  have hl2 := mm_cls_lt h1
  have hnm : mm_cnm (ci + 1) = C := by
    unfold mm_cnm
    rw [if_neg (by omega), Nat.add_sub_cancel, h1]
    rfl
  rw [hnm] at hl
  exact va_castS hx hb hown (hts _ hl) (hK.1 ci _ h1).2 ⟨cell, g1, g2, g3⟩ hdg kk
theorem mr_castA (cx : mm_cx E D dA p s mth args meth c m) (hr : mm_rel E D dA h H) {a t idx : Nat} {x : vp_A} (ha : h.2.2 a = some (.inl (t, x))) (ht : t = 0 ∨ t = 3) (hl : Cond.classLink (mm_own m) idx (mm_arn t) ∈ mm_tbl) (hdg : decode (mm_by m) pc = .ok (.checkcast idx, 3))
    (kk : W p l e R s mth args below meth c H locs cells slots Q (F0 mth (pc + 3) ls (.ref a :: rest))) : W p l e R s mth args below meth c H locs cells slots Q (F0 mth pc ls (.ref a :: rest)) := by
  obtain ⟨hx, hb, -, -, hown, hts, -, -, hK, hE⟩ := cx
  have hnm : s.vm.findClass (mm_arn t) = some (dA t) := by
    rcases ht with rfl | rfl
    · exact (hK.2 0 _ rfl).2
    · exact va_nmO (hK.2 3 _ rfl).2 rfl
  exact va_castA hx hb hown (hts _ hl) (mr_P1 (hr.2.2 a _ ha).2.1) 0 rfl hnm hdg kk
theorem mr_gets (cx : mm_cx E D dA p s mth args meth c m) (hS : va_S (mm_A E) s.heap H locs) {g idx : Nat} (hg : g < 3) (hl : Cond.fieldLink (mm_own m) idx (mm_gs g).1 (mm_gs g).2.1 (mm_gs g).2.2 ∈ mm_tbl) (hdg : decode (mm_by m) pc = .ok (.getstatic idx, 3))
    (kk : W p l e R s mth args below meth c H locs cells slots Q (F0 mth (pc + 3) ls (E.2.1 g :: rest))) : W p l e R s mth args below meth c H locs cells slots Q (F0 mth pc ls rest) := by
  obtain ⟨hx, hb, -, -, hown, hts, -, -, hK, hE⟩ := cx
  exact va_gets hx hb (hE.1 g hg) hS hown (hts _ hl) (fun _ h => h) hdg kk
theorem mr_gstr (cx : mm_cx E D dA p s mth args meth c m) (hS : va_S (mm_A E) s.heap H locs) {a k idx : Nat} {fs : Nat → Value} (ha : E.2.2 1 a = some (.inr fs)) (hk : k < 2) (hl : Cond.fieldLink (mm_own m) idx "java/lang/String" (mm_sf k).1 (mm_sf k).2 ∈ mm_tbl) (hdg : decode (mm_by m) pc = .ok (.getfield idx, 3))
    (kk : W p l e R s mth args below meth c H locs cells slots Q (F0 mth (pc + 3) ls (fs k :: rest))) : W p l e R s mth args below meth c H locs cells slots Q (F0 mth pc ls (.ref a :: rest)) := by
  obtain ⟨hx, hb, -, -, hown, hts, -, -, hK, hE⟩ := cx
  have ho := (hE.2.2.2.1 1 a _ ha).2
  match k, hk with
  | 0, _ => exact vk_getf hx hb ho.2.1 hS hown (hts _ hl) (fun _ h => h) hdg kk
  | 1, _ => exact vk_getf hx hb ho.2.2 hS hown (hts _ hl) (fun _ h => h) hdg kk
end MR
