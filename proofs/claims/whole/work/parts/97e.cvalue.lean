/-! THE CLASS: value -/
section C
variable {E : mmE} {d : Nat} {h : mmH} {Q : Option Value → mmH → Prop} {B N O : Nat → Nat} {row : Nat} {own : Nat → Nat} {ta o : Nat} {t : qB} {F V : Option qB} {X : Nat → Option qX} {pa : Nat} {pl hl : Value} {f : Nat → Int32} {g : Nat → Option Nat}
theorem sp_cvalue {n : Int32} (hd : 80 ≤ d) (hE : sE E) (hSt : sStr E) (hI : cIx E h own o t F V X ta pa pl hl f g N O row B) (hplv : pl = .null ∨ ∃ a, pl = .ref a) (hq : ∀ h', cInv E h' own o (s_take t n) F (s_value t V n) X → kFr h h' own own ta → h'.1 + 36 * (s_take t n).1 ≤ h.1 + 36 * t.1 + 20 → h'.2.1 + 560 * (s_take t n).1 ≤ h.2.1 + 560 * t.1 + 300 → h.2.1 ≤ h'.2.1 → Q (some (.int (a_value t n))) h') : mm_Go E d 92 (mm_blk 92 0) [.ref o, .int n, mm_un] [] h Q := by
  have hI0 := hI
  obtain ⟨⟨c1, c2⟩, i2, i3, i4, i5, i6, i7, i8, i9, i10⟩ := hI
  have hto : ta ≠ o := fun q => by rw [q, c1] at c2; cases c2
  have hol := hOk_lt i2.1 c1
  have htl := hOk_lt i2.1 c2
  unfold s_take s_value a_value at hq
  have one : (n < 0 ∨ nI t.1 < n) → mm_Go E d 92 (mm_blk 92 1) [.ref o, .int n, mm_un] [] h Q := by
    intro q
    rw [if_pos q, if_pos q, if_pos q] at hq
    repeat (first | refine gc_n3 rfl ?_ | refine gc_n6 rfl ?_ | refine gc_n7 rfl ?_ | refine gc_n8 rfl ?_ | refine gc_n9 rfl ?_ | refine gc_n2 rfl ?_ | refine gc_n5 rfl ?_ | refine gi_con ?_ | refine gi_bip (Nat.le_of_ble_eq_true rfl) ?_ | refine gi_sip (Nat.le_of_ble_eq_true rfl) ?_ | refine gi_ldc ?_ | refine gi_add ?_ | refine gi_inc rfl ?_ | refine gi_sub (by omega) ?_ | refine gi_mul ?_ | refine go_nx rfl ?_)
    refine go_rt rfl ?_
    exact hq h ⟨_, _, _, _, _, _, _, _, _, _, hI0⟩ (kFr_r _ _ _) (by omega) (by omega) (Nat.le_refl _)
  repeat (first | refine gc_n3 rfl ?_ | refine gc_n6 rfl ?_ | refine gc_n7 rfl ?_ | refine gc_n8 rfl ?_ | refine gc_n9 rfl ?_ | refine gc_n2 rfl ?_ | refine gc_n5 rfl ?_ | refine gi_con ?_ | refine gi_bip (Nat.le_of_ble_eq_true rfl) ?_ | refine gi_sip (Nat.le_of_ble_eq_true rfl) ?_ | refine gi_ldc ?_ | refine gi_add ?_ | refine gi_inc rfl ?_ | refine gi_sub (by omega) ?_ | refine gi_mul ?_ | refine go_nx rfl ?_)
  refine gx_lt (fun d1 => one (Or.inl d1)) (fun d1 => ?_)
  repeat (first | refine gc_n3 rfl ?_ | refine gc_n6 rfl ?_ | refine gc_n7 rfl ?_ | refine gc_n8 rfl ?_ | refine gc_n9 rfl ?_ | refine gc_n2 rfl ?_ | refine gc_n5 rfl ?_ | refine gi_con ?_ | refine gi_bip (Nat.le_of_ble_eq_true rfl) ?_ | refine gi_sip (Nat.le_of_ble_eq_true rfl) ?_ | refine gi_ldc ?_ | refine gi_add ?_ | refine gi_inc rfl ?_ | refine gi_sub (by omega) ?_ | refine gi_mul ?_ | refine go_nx rfl ?_)
  refine gf_get _ c1 (by decide) rfl ?_
  refine gy_le (fun d2 => ?_) (fun d2 => ?_)
  rotate_left
  · repeat (first | refine gc_n3 rfl ?_ | refine gc_n6 rfl ?_ | refine gc_n7 rfl ?_ | refine gc_n8 rfl ?_ | refine gc_n9 rfl ?_ | refine gc_n2 rfl ?_ | refine gc_n5 rfl ?_ | refine gi_con ?_ | refine gi_bip (Nat.le_of_ble_eq_true rfl) ?_ | refine gi_sip (Nat.le_of_ble_eq_true rfl) ?_ | refine gi_ldc ?_ | refine gi_add ?_ | refine gi_inc rfl ?_ | refine gi_sub (by omega) ?_ | refine gi_mul ?_ | refine go_nx rfl ?_)
    refine go_jp rfl ?_
    exact one (Or.inr (Int32.not_le.mp d2))
  have ht2 := i3.1
  obtain ⟨k, hk1, rfl⟩ : ∃ k, k ≤ t.1 ∧ n = nI k := by
    rcases pk_ix n (n := t.1 + 1) (by omega) with q | q | ⟨j, hj, q⟩
    · exact absurd q d1
    · exfalso
      have h3 : nI t.1 < nI (t.1 + 1) := nI_lt (by omega) (by omega)
      exact Int32.not_le.mpr (Int32.lt_of_lt_of_le h3 q) d2
    · exact ⟨j, by omega, q⟩
  have hnb : ¬ (nI k < 0 ∨ nI t.1 < nI k) := fun q => q.elim d1 (fun z => absurd z (Int32.not_lt.mpr d2))
  rw [if_neg hnb, if_neg hnb, if_neg hnb, nI_clamp (by omega)] at hq
  clear one
  have htb := fun j (hj : j < k) => i3.2 j (show j < t.1 by omega)
  have hrow : q_row (q_sub t.2 0 k) k := q_sub_row (by omega) (fun j hj => by rw [Nat.zero_add]; exact (htb j hj).2)
  generalize hBB : q_sub t.2 0 k = BB at hq hrow
  /- the state with another value -/
  have fin0 : ∀ (h' : mmH) (hl' : Value) (V' : Option qB), oFr E h h' own own o → wOk E h' own → h'.2.2 o = some (.inr (0, [.ref ta, .ref pa, .int (nI 0), pl, hl'])) → (V' = none → hl' = .null) → (∀ v, V' = some v → ∃ a row2, hl' = .ref a ∧ row2 ≠ ta ∧ vDat h' a row2 v) → cInv E h' own o (0, t.2) F V' X := by
    intro h' hl' V' hf hw hc hv0 hv1
    refine ⟨ta, pa, pl, hl', f, g, N, O, row, B, cIx_plan (t' := (0, t.2)) hI0 hf hw hc rfl i5 (fun b hb => ?_) (fun fa q => Or.inr ⟨rfl, rfl, rfl, rfl⟩) hv0 hv1⟩
    obtain ⟨e1, e2, fa, e3, e4⟩ := i6 b hb
    exact ⟨e1, e2, fa, e3, fDat_k (oFr_k hf ⟨_, c1⟩) i2.1 ⟨f, c2⟩ e2 e4⟩
  refine gc_n2 rfl ?_
  have oB : oFr E h (mm_new h 4 (.inr (2, [.null, .null, .int 0, .int 0]))) own own o := ⟨Nat.le_succ _, fun b hb => ⟨rfl, fun q => hn_ne (by omega)⟩⟩
  have wB := wOk_new (n := 4) (c := .inr (2, [.null, .null, .int 0, .int 0])) i2
  have cB : cTp (mm_new h 4 (.inr (2, [.null, .null, .int 0, .int 0]))) o ta pa t.1 pl hl f := ⟨by rw [hn_ne (by omega)]; exact c1, by rw [hn_ne (by omega)]; exact c2⟩
  have rB : (mm_new h 4 (.inr (2, [.null, .null, .int 0, .int 0]))).2.2 h.1 = some (.inr (2, [.null, .null, .int 0, .int 0])) := hn_at
  have sB : (mm_new h 4 (.inr (2, [.null, .null, .int 0, .int 0]))).1 = h.1 + 1 := rfl
  have tB : (mm_new h 4 (.inr (2, [.null, .null, .int 0, .int 0]))).2.1 = h.2.1 + 4 := rfl
  generalize mm_new h 4 (.inr (2, [.null, .null, .int 0, .int 0])) = hB at oB wB cB rB sB tB ⊢
  repeat (first | refine gc_n3 rfl ?_ | refine gc_n6 rfl ?_ | refine gc_n7 rfl ?_ | refine gc_n8 rfl ?_ | refine gc_n9 rfl ?_ | refine gc_n2 rfl ?_ | refine gc_n5 rfl ?_ | refine gi_con ?_ | refine gi_bip (Nat.le_of_ble_eq_true rfl) ?_ | refine gi_sip (Nat.le_of_ble_eq_true rfl) ?_ | refine gi_ldc ?_ | refine gi_add ?_ | refine gi_inc rfl ?_ | refine gi_sub (by omega) ?_ | refine gi_mul ?_ | refine go_nx rfl ?_)
  refine go_step ?_
  refine g_callV (by decide) (by decide) (Nat.le_of_ble_eq_true rfl) (Nat.le_of_ble_eq_true rfl) (o_rcv cB.1 rfl (by decide)) (by omega) (Nat.le_of_ble_eq_true rfl) rfl ?_
  refine sp_take (by omega) wB.1 cB (by omega) (fun gg hgg => ?_)
  have hob := cB.1
  have oC : oFr E h (mm_new (mm_set hB o (.inr (0, [.ref ta, .ref pa, .int (nI 0), pl, hl]))) k (.inl (0, k, .inl gg))) own own o := ⟨by show h.1 ≤ hB.1 + 1; omega, fun b hb => ⟨rfl, fun q => by rw [hn_ne (by show b ≠ hB.1; omega), hs_ne q]; exact (oB.2 b hb).2 q⟩⟩
  have wC : wOk E (mm_new (mm_set hB o (.inr (0, [.ref ta, .ref pa, .int (nI 0), pl, hl]))) k (.inl (0, k, .inl gg))) own := wOk_new ⟨hOk_set2 wB.1 hob, wB.2⟩
  have cC : (mm_new (mm_set hB o (.inr (0, [.ref ta, .ref pa, .int (nI 0), pl, hl]))) k (.inl (0, k, .inl gg))).2.2 o = some (.inr (0, [.ref ta, .ref pa, .int (nI 0), pl, hl])) := by
    rw [hn_ne (by show o ≠ hB.1; omega)]
    exact hs_at
  have rC : (mm_new (mm_set hB o (.inr (0, [.ref ta, .ref pa, .int (nI 0), pl, hl]))) k (.inl (0, k, .inl gg))).2.2 h.1 = some (.inr (2, [.null, .null, .int 0, .int 0])) := by
    rw [hn_ne (by show h.1 ≠ hB.1; omega), hs_ne (by omega)]
    exact rB
  have bC : bRow (mm_new (mm_set hB o (.inr (0, [.ref ta, .ref pa, .int (nI 0), pl, hl]))) k (.inl (0, k, .inl gg))) hB.1 k BB := by
    rw [← hBB]
    exact row_of (by omega) hn_at (fun j hj => by rw [hgg j hj]; exact htb j hj)
  have sC : (mm_new (mm_set hB o (.inr (0, [.ref ta, .ref pa, .int (nI 0), pl, hl]))) k (.inl (0, k, .inl gg))).1 = h.1 + 2 := by show hB.1 + 1 = _; omega
  have tC : (mm_new (mm_set hB o (.inr (0, [.ref ta, .ref pa, .int (nI 0), pl, hl]))) k (.inl (0, k, .inl gg))).2.1 = h.2.1 + 4 + k := by show hB.2.1 + k = _; omega
  generalize mm_new (mm_set hB o (.inr (0, [.ref ta, .ref pa, .int (nI 0), pl, hl]))) k (.inl (0, k, .inl gg)) = hC at oC wC cC rC bC sC tC ⊢
  refine go_step ?_
  refine g_call (k := 21) rfl (by omega) (Nat.le_of_ble_eq_true rfl) rfl ?_
  refine sp_rnew (by omega) hE wC.1 rC bC (fun h1 ed k1 k2 k3 k4 k5 => ?_)
  rw [sC] at k1 k3
  have hedn : ∀ (H H' : mmH), hOk E H → hOk E H' → H'.2.2 ed = H.2.2 ed := fun H H' q q' => by rw [q.2.1 ed k5, q'.2.1 ed k5]
  have o1 : oFr E h h1 own own o := ⟨by omega, fun b hb => ⟨rfl, fun q => by rw [k2.2 b (by omega) (by omega)]; exact (oC.2 b hb).2 q⟩⟩
  have o1o : h1.2.2 o = some (.inr (0, [.ref ta, .ref pa, .int (nI 0), pl, hl])) := by rw [k2.2 o (by omega) (by omega)]; exact cC
  repeat (first | refine gc_n3 rfl ?_ | refine gc_n6 rfl ?_ | refine gc_n7 rfl ?_ | refine gc_n8 rfl ?_ | refine gc_n9 rfl ?_ | refine gc_n2 rfl ?_ | refine gc_n5 rfl ?_ | refine gi_con ?_ | refine gi_bip (Nat.le_of_ble_eq_true rfl) ?_ | refine gi_sip (Nat.le_of_ble_eq_true rfl) ?_ | refine gi_ldc ?_ | refine gi_add ?_ | refine gi_inc rfl ?_ | refine gi_sub (by omega) ?_ | refine gi_mul ?_ | refine go_nx rfl ?_)
  have rr1 : h1.2.2 h.1 = some (rdC (h.1 + 2) hB.1 0 false) := k1.1
  refine go_step ?_
  refine g_callV (by decide) (by decide) (Nat.le_of_ble_eq_true rfl) (Nat.le_of_ble_eq_true rfl) (o_rcv rr1 rfl (by decide)) (by omega) (Nat.le_of_ble_eq_true rfl) rfl ?_
  refine sp_rwhole (by omega) hE hSt k1 hrow (fun h2 N' ed' cap' p1 p2 p3 p3b p4 p5 p6 p7 p8 p9 p10 => ?_) (fun h2 cap' p1 p2 p3 p4 p5 p6 p7 => ?_)
  rotate_left
  · /- no document -/
    have o2 : oFr E h h2 own own o := ⟨Nat.le_trans o1.1 p3.1, fun b hb => ⟨rfl, fun q => by
      by_cases hbe : b = ed
      · rw [hbe, hedn h h2 i2.1 p2]
      · rw [p3.2 b (by omega) (fun z => by rcases z with z | z | z <;> omega)]
        exact (o1.2 b hb).2 q⟩⟩
    have c2' : h2.2.2 o = some (.inr (0, [.ref ta, .ref pa, .int (nI 0), pl, hl])) := by
      rw [p3.2 o (by omega) (fun z => by
        rcases z with z | z | z
        · omega
        · omega
        · have := i2.1.2.1 ed k5
          rw [← z, c1] at this
          cases this)]
      exact o1o
    have nd : ¬ (false = true ∧ 5 < k) := fun q => Bool.noConfusion q.1
    rw [p1, if_neg nd, if_neg nd] at hq
    have o2l := o2.1
    have hw3 : wOk E (mm_set h2 o (.inr (0, [.ref ta, .ref pa, .int (nI 0), pl, .null]))) own := ⟨hOk_set2 p2 c2', fun b => by have := i2.2 b; show own b < h2.1; omega⟩
    have o3 : oFr E h (mm_set h2 o (.inr (0, [.ref ta, .ref pa, .int (nI 0), pl, .null]))) own own o := ⟨o2.1, fun b hb => ⟨rfl, fun q => by rw [hs_ne q]; exact (o2.2 b hb).2 q⟩⟩
    repeat (first | refine gc_n3 rfl ?_ | refine gc_n6 rfl ?_ | refine gc_n7 rfl ?_ | refine gc_n8 rfl ?_ | refine gc_n9 rfl ?_ | refine gc_n2 rfl ?_ | refine gc_n5 rfl ?_ | refine gi_con ?_ | refine gi_bip (Nat.le_of_ble_eq_true rfl) ?_ | refine gi_sip (Nat.le_of_ble_eq_true rfl) ?_ | refine gi_ldc ?_ | refine gi_add ?_ | refine gi_inc rfl ?_ | refine gi_sub (by omega) ?_ | refine gi_mul ?_ | refine go_nx rfl ?_)
    refine gn_nnN ?_
    repeat (first | refine gc_n3 rfl ?_ | refine gc_n6 rfl ?_ | refine gc_n7 rfl ?_ | refine gc_n8 rfl ?_ | refine gc_n9 rfl ?_ | refine gc_n2 rfl ?_ | refine gc_n5 rfl ?_ | refine gi_con ?_ | refine gi_bip (Nat.le_of_ble_eq_true rfl) ?_ | refine gi_sip (Nat.le_of_ble_eq_true rfl) ?_ | refine gi_ldc ?_ | refine gi_add ?_ | refine gi_inc rfl ?_ | refine gi_sub (by omega) ?_ | refine gi_mul ?_ | refine go_nx rfl ?_)
    refine go_jp rfl ?_
    refine gc_put (fs' := [.ref ta, .ref pa, .int (nI 0), pl, .null]) c2' rfl (Nat.le_of_ble_eq_true rfl) rfl rfl ?_
    repeat (first | refine gc_n3 rfl ?_ | refine gc_n6 rfl ?_ | refine gc_n7 rfl ?_ | refine gc_n8 rfl ?_ | refine gc_n9 rfl ?_ | refine gc_n2 rfl ?_ | refine gc_n5 rfl ?_ | refine gi_con ?_ | refine gi_bip (Nat.le_of_ble_eq_true rfl) ?_ | refine gi_sip (Nat.le_of_ble_eq_true rfl) ?_ | refine gi_ldc ?_ | refine gi_add ?_ | refine gi_inc rfl ?_ | refine gi_sub (by omega) ?_ | refine gi_mul ?_ | refine go_nx rfl ?_)
    refine gf_get .null hs_at (by decide) rfl ?_
    refine gn_nnN ?_
    repeat (first | refine gc_n3 rfl ?_ | refine gc_n6 rfl ?_ | refine gc_n7 rfl ?_ | refine gc_n8 rfl ?_ | refine gc_n9 rfl ?_ | refine gc_n2 rfl ?_ | refine gc_n5 rfl ?_ | refine gi_con ?_ | refine gi_bip (Nat.le_of_ble_eq_true rfl) ?_ | refine gi_sip (Nat.le_of_ble_eq_true rfl) ?_ | refine gi_ldc ?_ | refine gi_add ?_ | refine gi_inc rfl ?_ | refine gi_sub (by omega) ?_ | refine gi_mul ?_ | refine go_nx rfl ?_)
    refine go_jp rfl ?_
    refine go_rt rfl ?_
    refine hq _ (fin0 _ .null none o3 hw3 hs_at (fun _ => rfl) (fun v q => by cases q)) (oFr_k o3 ⟨_, c1⟩) ?_ ?_ ?_
    · show h2.1 + 36 * 0 ≤ _
      omega
    · show h2.2.1 + 560 * 0 ≤ _
      omega
    · show h.2.1 ≤ h2.2.1
      omega
  have hk2 : hOk E h2 := p4.2.2.1
  have o2 : oFr E h h2 own own o := ⟨Nat.le_trans o1.1 p6.1, fun b hb => ⟨rfl, fun q => by
    by_cases hbe : b = ed
    · rw [hbe, hedn h h2 i2.1 hk2]
    · rw [p6.2 b (by omega) (fun z => by rcases z with z | z | z <;> omega)]
      exact (o1.2 b hb).2 q⟩⟩
  have o2l := o2.1
  have c2' : h2.2.2 o = some (.inr (0, [.ref ta, .ref pa, .int (nI 0), pl, hl])) := by
    rw [p6.2 o (by omega) (fun z => by
      rcases z with z | z | z
      · omega
      · omega
      · have := i2.1.2.1 ed k5
        rw [← z, c1] at this
        cases this)]
    exact o1o
  have hdoc := p1
  unfold q_doc at hdoc
  rw [Bool.and_eq_true] at hdoc
  have hsz : q_sz BB 0 = k := of_decide_eq_true hdoc.1
  have hbx : q_box (q_u8 BB) BB 16 0 k false = true := hdoc.2
  have rcap := p4.2.2.2.2.2
  have hroot : h2.2.2 h1.1 = some (.inr (4, [.ref hB.1, .int (nI 3), .int (-1), .int (nI 0), .int (nI 0), .int (nI 4), .int 0, .int 0, .long 0, if 4 < q_last BB 0 then .ref (N' 4) else .null, .null, .int 0])) := p5
  by_cases h5k : 5 < k
  · have h4l : 4 < q_last BB 0 := by unfold q_last; omega
    rw [if_pos h4l] at hroot
    rw [p1, if_pos ⟨rfl, h5k⟩, if_pos ⟨rfl, h5k⟩] at hq
    have hw3 : wOk E (mm_set h2 o (.inr (0, [.ref ta, .ref pa, .int (nI 0), pl, .ref (N' 4)]))) own := ⟨hOk_set2 hk2 c2', fun b => by have := i2.2 b; show own b < h2.1; omega⟩
    have o3 : oFr E h (mm_set h2 o (.inr (0, [.ref ta, .ref pa, .int (nI 0), pl, .ref (N' 4)]))) own own o := ⟨o2.1, fun b hb => ⟨rfl, fun q => by rw [hs_ne q]; exact (o2.2 b hb).2 q⟩⟩
    have h4 : 4 ∈ q_box_els BB 0 := by
      unfold q_box_els
      rw [q_els_s, if_pos (show 0 + 4 < q_last BB 0 from h4l)]
      exact List.mem_cons_self
    have hcell : h2.2.2 (N' 4) = some (nFull hB.1 BB N' (fun _ => 0) (q_last BB 0) 4) := by
      have := p2
      rw [nBox_s] at this
      exact (this 4 h4).1
    have hcell' : h2.2.2 (N' 4) = some (.inr (4, [.ref hB.1, .int (nI (BB 4)), .int (nI 4), .int (nI (q_ne BB 4)), .int (nI (q_word BB 4)), .int (nI (q_cls (BB 4))), .int (q_tf BB 4), .int (q_tt BB 4), .long (q_nu BB 4), q_fi BB N' 4, q_nx BB N' (q_last BB 0) 4, .int (nI 0)])) := hcell
    have hno : N' 4 ≠ o := fun q => by rw [q, c2'] at hcell'; cases hcell'
    have hcell3 : (mm_set h2 o (.inr (0, [.ref ta, .ref pa, .int (nI 0), pl, .ref (N' 4)]))).2.2 (N' 4) = _ := (hs_ne hno).trans hcell'
    have hbr2 : bRow h2 hB.1 k BB := p4.2.2.2.1
    repeat (first | refine gc_n3 rfl ?_ | refine gc_n6 rfl ?_ | refine gc_n7 rfl ?_ | refine gc_n8 rfl ?_ | refine gc_n9 rfl ?_ | refine gc_n2 rfl ?_ | refine gc_n5 rfl ?_ | refine gi_con ?_ | refine gi_bip (Nat.le_of_ble_eq_true rfl) ?_ | refine gi_sip (Nat.le_of_ble_eq_true rfl) ?_ | refine gi_ldc ?_ | refine gi_add ?_ | refine gi_inc rfl ?_ | refine gi_sub (by omega) ?_ | refine gi_mul ?_ | refine go_nx rfl ?_)
    refine gn_nnR ?_
    repeat (first | refine gc_n3 rfl ?_ | refine gc_n6 rfl ?_ | refine gc_n7 rfl ?_ | refine gc_n8 rfl ?_ | refine gc_n9 rfl ?_ | refine gc_n2 rfl ?_ | refine gc_n5 rfl ?_ | refine gi_con ?_ | refine gi_bip (Nat.le_of_ble_eq_true rfl) ?_ | refine gi_sip (Nat.le_of_ble_eq_true rfl) ?_ | refine gi_ldc ?_ | refine gi_add ?_ | refine gi_inc rfl ?_ | refine gi_sub (by omega) ?_ | refine gi_mul ?_ | refine go_nx rfl ?_)
    refine gf_get _ hroot (by decide) rfl ?_
    refine go_jp rfl ?_
    refine gc_put (fs' := [.ref ta, .ref pa, .int (nI 0), pl, .ref (N' 4)]) c2' rfl (Nat.le_of_ble_eq_true rfl) rfl rfl ?_
    repeat (first | refine gc_n3 rfl ?_ | refine gc_n6 rfl ?_ | refine gc_n7 rfl ?_ | refine gc_n8 rfl ?_ | refine gc_n9 rfl ?_ | refine gc_n2 rfl ?_ | refine gc_n5 rfl ?_ | refine gi_con ?_ | refine gi_bip (Nat.le_of_ble_eq_true rfl) ?_ | refine gi_sip (Nat.le_of_ble_eq_true rfl) ?_ | refine gi_ldc ?_ | refine gi_add ?_ | refine gi_inc rfl ?_ | refine gi_sub (by omega) ?_ | refine gi_mul ?_ | refine go_nx rfl ?_)
    refine gf_get (.ref (N' 4)) hs_at (by decide) rfl ?_
    refine gn_nnR ?_
    repeat (first | refine gc_n3 rfl ?_ | refine gc_n6 rfl ?_ | refine gc_n7 rfl ?_ | refine gc_n8 rfl ?_ | refine gc_n9 rfl ?_ | refine gc_n2 rfl ?_ | refine gc_n5 rfl ?_ | refine gi_con ?_ | refine gi_bip (Nat.le_of_ble_eq_true rfl) ?_ | refine gi_sip (Nat.le_of_ble_eq_true rfl) ?_ | refine gi_ldc ?_ | refine gi_add ?_ | refine gi_inc rfl ?_ | refine gi_sub (by omega) ?_ | refine gi_mul ?_ | refine go_nx rfl ?_)
    refine gf_get (.ref (N' 4)) hs_at (by decide) rfl ?_
    refine gf_get _ hcell3 (by decide) rfl ?_
    refine go_jp rfl ?_
    refine go_rt rfl ?_
    refine hq _ (fin0 _ (.ref (N' 4)) (some (k, BB)) o3 hw3 hs_at (fun q => by cases q) (fun v q => by
      cases q
      refine ⟨N' 4, hB.1, rfl, by omega, N', fun _ => 0, hrow, hbx, hsz, h5k, bRow_eq hbr2 (hs_ne (bRow_ne hbr2 c2')), nBox_sub (fun b c hb => hs_ne (fun q => by rw [q, c2'] at hb; cases hb)) p2, rfl⟩)) (oFr_k o3 ⟨_, c1⟩) ?_ ?_ ?_
    · show h2.1 + 36 * 0 ≤ _
      omega
    · show h2.2.1 + 560 * 0 ≤ _
      omega
    · show h.2.1 ≤ h2.2.1
      omega
  · have h4l : ¬ 4 < q_last BB 0 := by unfold q_last; omega
    rw [if_neg h4l] at hroot
    have nd : ¬ (true = true ∧ 5 < k) := fun q => h5k q.2
    rw [p1, if_neg nd, if_neg nd] at hq
    have hw3 : wOk E (mm_set h2 o (.inr (0, [.ref ta, .ref pa, .int (nI 0), pl, .null]))) own := ⟨hOk_set2 hk2 c2', fun b => by have := i2.2 b; show own b < h2.1; omega⟩
    have o3 : oFr E h (mm_set h2 o (.inr (0, [.ref ta, .ref pa, .int (nI 0), pl, .null]))) own own o := ⟨o2.1, fun b hb => ⟨rfl, fun q => by rw [hs_ne q]; exact (o2.2 b hb).2 q⟩⟩
    repeat (first | refine gc_n3 rfl ?_ | refine gc_n6 rfl ?_ | refine gc_n7 rfl ?_ | refine gc_n8 rfl ?_ | refine gc_n9 rfl ?_ | refine gc_n2 rfl ?_ | refine gc_n5 rfl ?_ | refine gi_con ?_ | refine gi_bip (Nat.le_of_ble_eq_true rfl) ?_ | refine gi_sip (Nat.le_of_ble_eq_true rfl) ?_ | refine gi_ldc ?_ | refine gi_add ?_ | refine gi_inc rfl ?_ | refine gi_sub (by omega) ?_ | refine gi_mul ?_ | refine go_nx rfl ?_)
    refine gn_nnR ?_
    repeat (first | refine gc_n3 rfl ?_ | refine gc_n6 rfl ?_ | refine gc_n7 rfl ?_ | refine gc_n8 rfl ?_ | refine gc_n9 rfl ?_ | refine gc_n2 rfl ?_ | refine gc_n5 rfl ?_ | refine gi_con ?_ | refine gi_bip (Nat.le_of_ble_eq_true rfl) ?_ | refine gi_sip (Nat.le_of_ble_eq_true rfl) ?_ | refine gi_ldc ?_ | refine gi_add ?_ | refine gi_inc rfl ?_ | refine gi_sub (by omega) ?_ | refine gi_mul ?_ | refine go_nx rfl ?_)
    refine gf_get _ hroot (by decide) rfl ?_
    refine go_jp rfl ?_
    refine gc_put (fs' := [.ref ta, .ref pa, .int (nI 0), pl, .null]) c2' rfl (Nat.le_of_ble_eq_true rfl) rfl rfl ?_
    repeat (first | refine gc_n3 rfl ?_ | refine gc_n6 rfl ?_ | refine gc_n7 rfl ?_ | refine gc_n8 rfl ?_ | refine gc_n9 rfl ?_ | refine gc_n2 rfl ?_ | refine gc_n5 rfl ?_ | refine gi_con ?_ | refine gi_bip (Nat.le_of_ble_eq_true rfl) ?_ | refine gi_sip (Nat.le_of_ble_eq_true rfl) ?_ | refine gi_ldc ?_ | refine gi_add ?_ | refine gi_inc rfl ?_ | refine gi_sub (by omega) ?_ | refine gi_mul ?_ | refine go_nx rfl ?_)
    refine gf_get .null hs_at (by decide) rfl ?_
    refine gn_nnN ?_
    repeat (first | refine gc_n3 rfl ?_ | refine gc_n6 rfl ?_ | refine gc_n7 rfl ?_ | refine gc_n8 rfl ?_ | refine gc_n9 rfl ?_ | refine gc_n2 rfl ?_ | refine gc_n5 rfl ?_ | refine gi_con ?_ | refine gi_bip (Nat.le_of_ble_eq_true rfl) ?_ | refine gi_sip (Nat.le_of_ble_eq_true rfl) ?_ | refine gi_ldc ?_ | refine gi_add ?_ | refine gi_inc rfl ?_ | refine gi_sub (by omega) ?_ | refine gi_mul ?_ | refine go_nx rfl ?_)
    refine go_jp rfl ?_
    refine go_rt rfl ?_
    refine hq _ (fin0 _ .null none o3 hw3 hs_at (fun _ => rfl) (fun v q => by cases q)) (oFr_k o3 ⟨_, c1⟩) ?_ ?_ ?_
    · show h2.1 + 36 * 0 ≤ _
      omega
    · show h2.2.1 + 560 * 0 ≤ _
      omega
    · show h.2.1 ≤ h2.2.1
      omega
end C
