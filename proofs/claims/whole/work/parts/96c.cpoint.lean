/-! THE CLASS: points, holding -/
section C
variable {E : mmE} {d : Nat} {h : mmH} {Q : Option Value → mmH → Prop} {B N O : Nat → Nat} {row n : Nat} {own : Nat → Nat}
def q_p1 (B : Nat → Nat) (r : qR) : Bool := decide (r.1.2.1 = 1) && (decide (r.2.2.1 = 1) && decide (q_ord B B 17 r.1.2.2.2 r.2.2.2.2 = 0))
theorem eC_1 {x : qE} (hx : x.2.1 = 1) : eCell N O x = .inr (6, [.int (nI x.1), .ref (N x.2.2.2), .int (nI x.2.2.1), .int (nI (eLo O x)), .int (nI (eHi O x))]) := by
  unfold eCell
  rw [if_pos hx]
theorem eC_0 {x : qE} (hx : ¬ x.2.1 = 1) : eCell N O x = .inr (6, [.int (nI x.1), .null, .int (nI x.2.2.1), .int (nI (eLo O x)), .int (nI (eHi O x))]) := by
  unfold eCell
  rw [if_neg hx]
theorem sp_isPoint {a : Nat} {r : qR} (hbx : q_box (q_u8 B) B 16 0 n false = true) (hO : oIs (q_ord B B 17) (fun x => x ∈ q_pre B 16 0) O) (hx : fCx h row n B N O) (hr : rOk (fun x => x ∈ q_pre B 16 0) O r) (ha : iAt h N O a r) (hq : Q (some (.int (q_t (q_p1 B r)))) h) : mm_Go E d 103 (mm_blk 103 0) [.ref a] [] h Q := by
  obtain ⟨lo, hi, a1, a2, a3⟩ := ha
  have one : q_p1 B r = false → mm_Go E d 103 (mm_blk 103 1) [.ref a] [] h Q := by
    intro e
    rw [e] at hq
    repeat (first | refine gc_n3 rfl ?_ | refine gc_n6 rfl ?_ | refine gc_n7 rfl ?_ | refine gc_n8 rfl ?_ | refine gc_n9 rfl ?_ | refine gi_con ?_ | refine gi_bip (Nat.le_of_ble_eq_true rfl) ?_ | refine gi_sip (Nat.le_of_ble_eq_true rfl) ?_ | refine gi_ldc ?_ | refine gi_add ?_ | refine gi_inc rfl ?_ | refine gi_sub (by omega) ?_ | refine gi_mul ?_ | refine go_nx rfl ?_)
    refine go_jp rfl ?_
    refine go_rt rfl ?_
    exact hq
  by_cases h1 : r.1.2.1 = 1
  rotate_left
  · rw [eC_0 h1] at a2
    repeat (first | refine gc_n3 rfl ?_ | refine gc_n6 rfl ?_ | refine gc_n7 rfl ?_ | refine gc_n8 rfl ?_ | refine gc_n9 rfl ?_ | refine gi_con ?_ | refine gi_bip (Nat.le_of_ble_eq_true rfl) ?_ | refine gi_sip (Nat.le_of_ble_eq_true rfl) ?_ | refine gi_ldc ?_ | refine gi_add ?_ | refine gi_inc rfl ?_ | refine gi_sub (by omega) ?_ | refine gi_mul ?_ | refine go_nx rfl ?_)
    refine gf_get _ a1 (by decide) rfl ?_
    refine gf_get _ a2 (by decide) rfl ?_
    refine gn_nN ?_
    exact one (by unfold q_p1; rw [decide_eq_false h1]; rfl)
  rw [eC_1 h1] at a2
  repeat (first | refine gc_n3 rfl ?_ | refine gc_n6 rfl ?_ | refine gc_n7 rfl ?_ | refine gc_n8 rfl ?_ | refine gc_n9 rfl ?_ | refine gi_con ?_ | refine gi_bip (Nat.le_of_ble_eq_true rfl) ?_ | refine gi_sip (Nat.le_of_ble_eq_true rfl) ?_ | refine gi_ldc ?_ | refine gi_add ?_ | refine gi_inc rfl ?_ | refine gi_sub (by omega) ?_ | refine gi_mul ?_ | refine go_nx rfl ?_)
  refine gf_get _ a1 (by decide) rfl ?_
  refine gf_get _ a2 (by decide) rfl ?_
  refine gn_nR ?_
  by_cases h2 : r.2.2.1 = 1
  rotate_left
  · rw [eC_0 h2] at a3
    repeat (first | refine gc_n3 rfl ?_ | refine gc_n6 rfl ?_ | refine gc_n7 rfl ?_ | refine gc_n8 rfl ?_ | refine gc_n9 rfl ?_ | refine gi_con ?_ | refine gi_bip (Nat.le_of_ble_eq_true rfl) ?_ | refine gi_sip (Nat.le_of_ble_eq_true rfl) ?_ | refine gi_ldc ?_ | refine gi_add ?_ | refine gi_inc rfl ?_ | refine gi_sub (by omega) ?_ | refine gi_mul ?_ | refine go_nx rfl ?_)
    refine gf_get _ a1 (by decide) rfl ?_
    refine gf_get _ a3 (by decide) rfl ?_
    refine gn_nN ?_
    exact one (by unfold q_p1; rw [decide_eq_false h2, Bool.false_and, Bool.and_false])
  rw [eC_1 h2] at a3
  have p1 := hr.1.2.2.2 h1
  have p2 := hr.2.1.2.2.2 h2
  obtain ⟨l1, m1, n1, -⟩ := fCx_nd hbx hx p1
  obtain ⟨l2, m2, n2, -⟩ := fCx_nd hbx hx p2
  have b1 := hO.1 _ p1
  have b2 := hO.1 _ p2
  have hob := hO.2 _ _ p1 p2
  repeat (first | refine gc_n3 rfl ?_ | refine gc_n6 rfl ?_ | refine gc_n7 rfl ?_ | refine gc_n8 rfl ?_ | refine gc_n9 rfl ?_ | refine gi_con ?_ | refine gi_bip (Nat.le_of_ble_eq_true rfl) ?_ | refine gi_sip (Nat.le_of_ble_eq_true rfl) ?_ | refine gi_ldc ?_ | refine gi_add ?_ | refine gi_inc rfl ?_ | refine gi_sub (by omega) ?_ | refine gi_mul ?_ | refine go_nx rfl ?_)
  refine gf_get _ a1 (by decide) rfl ?_
  refine gf_get _ a3 (by decide) rfl ?_
  refine gn_nR ?_
  repeat (first | refine gc_n3 rfl ?_ | refine gc_n6 rfl ?_ | refine gc_n7 rfl ?_ | refine gc_n8 rfl ?_ | refine gc_n9 rfl ?_ | refine gi_con ?_ | refine gi_bip (Nat.le_of_ble_eq_true rfl) ?_ | refine gi_sip (Nat.le_of_ble_eq_true rfl) ?_ | refine gi_ldc ?_ | refine gi_add ?_ | refine gi_inc rfl ?_ | refine gi_sub (by omega) ?_ | refine gi_mul ?_ | refine go_nx rfl ?_)
  refine gf_get _ a1 (by decide) rfl ?_
  refine gf_get _ a2 (by decide) rfl ?_
  refine gf_get _ (nd_c n1) (by decide) rfl ?_
  repeat (first | refine gc_n3 rfl ?_ | refine gc_n6 rfl ?_ | refine gc_n7 rfl ?_ | refine gc_n8 rfl ?_ | refine gc_n9 rfl ?_ | refine gi_con ?_ | refine gi_bip (Nat.le_of_ble_eq_true rfl) ?_ | refine gi_sip (Nat.le_of_ble_eq_true rfl) ?_ | refine gi_ldc ?_ | refine gi_add ?_ | refine gi_inc rfl ?_ | refine gi_sub (by omega) ?_ | refine gi_mul ?_ | refine go_nx rfl ?_)
  refine gf_get _ a1 (by decide) rfl ?_
  refine gf_get _ a3 (by decide) rfl ?_
  refine gf_get _ (nd_c n2) (by decide) rfl ?_
  first | refine gb_lt (by omega) (by omega) (fun c1 => ?_) (fun c1 => ?_) | refine gb_ge (by omega) (by omega) (fun c1 => ?_) (fun c1 => ?_) | refine gb_gt (by omega) (by omega) (fun c1 => ?_) (fun c1 => ?_) | refine gb_le (by omega) (by omega) (fun c1 => ?_) (fun c1 => ?_) | refine gb_eq (by omega) (by omega) (fun c1 => ?_) (fun c1 => ?_) | refine gb_ne (by omega) (by omega) (fun c1 => ?_) (fun c1 => ?_)
  · refine one ?_
    unfold q_p1
    rw [decide_eq_false (show ¬ q_ord B B 17 r.1.2.2.2 r.2.2.2.2 = 0 from fun q => c1 (q_c3_0.mp (hob.trans q))), Bool.and_false, Bool.and_false]
  · have e : q_p1 B r = true := by
      unfold q_p1
      rw [decide_eq_true h1, decide_eq_true h2, decide_eq_true (show q_ord B B 17 r.1.2.2.2 r.2.2.2.2 = 0 from hob.symm.trans (q_c3_0.mpr c1))]
      rfl
    rw [e] at hq
    repeat (first | refine gc_n3 rfl ?_ | refine gc_n6 rfl ?_ | refine gc_n7 rfl ?_ | refine gc_n8 rfl ?_ | refine gc_n9 rfl ?_ | refine gi_con ?_ | refine gi_bip (Nat.le_of_ble_eq_true rfl) ?_ | refine gi_sip (Nat.le_of_ble_eq_true rfl) ?_ | refine gi_ldc ?_ | refine gi_add ?_ | refine gi_inc rfl ?_ | refine gi_sub (by omega) ?_ | refine gi_mul ?_ | refine go_nx rfl ?_)
    refine go_jp rfl ?_
    refine go_rt rfl ?_
    exact hq
theorem sp_arePoints {a cap : Nat} {l : List Nat} {R : List qR} (hd : 3 ≤ d) (hbx : q_box (q_u8 B) B 16 0 n false = true) (hO : oIs (q_ord B B 17) (fun x => x ∈ q_pre B 16 0) O) (hx : fCx h row n B N O) (hl : gL E h own a cap l) (hb : bR h N O l R) (hR : ∀ r ∈ R, rOk (fun x => x ∈ q_pre B 16 0) O r) (hlen : R.length ≤ 2000) (hq : Q (some (.int (q_t (q_points B R)))) h) : mm_Go E d 102 (mm_blk 102 0) [.ref a, mm_un] [] h Q := by
  have hl' := hb.1
  have e0 : q_points B R = R.all (q_p1 B) := rfl
  rw [e0] at hq
  have loop : ∀ (m i : Nat), m + i = R.length → R.all (q_p1 B) = (R.drop i).all (q_p1 B) → mm_Go E d 102 (mm_blk 102 1) [.ref a, .int (nI i)] [] h Q := by
    intro m
    induction m with
    | zero =>
      intro i hm he
      rw [show i = R.length by omega, List.drop_length] at he
      rw [he] at hq
      repeat (first | refine gc_n3 rfl ?_ | refine gc_n6 rfl ?_ | refine gc_n7 rfl ?_ | refine gc_n8 rfl ?_ | refine gc_n9 rfl ?_ | refine gi_con ?_ | refine gi_bip (Nat.le_of_ble_eq_true rfl) ?_ | refine gi_sip (Nat.le_of_ble_eq_true rfl) ?_ | refine gi_ldc ?_ | refine gi_add ?_ | refine gi_inc rfl ?_ | refine gi_sub (by omega) ?_ | refine gi_mul ?_ | refine go_nx rfl ?_)
      refine go_step ?_
      refine g_callV (by decide) (by decide) (Nat.le_of_ble_eq_true rfl) (Nat.le_of_ble_eq_true rfl) (gL_rcv hl) (by omega) (Nat.le_of_ble_eq_true rfl) rfl ?_
      refine sp_lsize hl ?_
      rw [hl']
      first | refine gb_lt (by omega) (by omega) (fun c => ?_) (fun c => ?_) | refine gb_ge (by omega) (by omega) (fun c => ?_) (fun c => ?_) | refine gb_gt (by omega) (by omega) (fun c => ?_) (fun c => ?_) | refine gb_le (by omega) (by omega) (fun c => ?_) (fun c => ?_) | refine gb_eq (by omega) (by omega) (fun c => ?_) (fun c => ?_) | refine gb_ne (by omega) (by omega) (fun c => ?_) (fun c => ?_)
      rotate_left
      · omega
      repeat (first | refine gc_n3 rfl ?_ | refine gc_n6 rfl ?_ | refine gc_n7 rfl ?_ | refine gc_n8 rfl ?_ | refine gc_n9 rfl ?_ | refine gi_con ?_ | refine gi_bip (Nat.le_of_ble_eq_true rfl) ?_ | refine gi_sip (Nat.le_of_ble_eq_true rfl) ?_ | refine gi_ldc ?_ | refine gi_add ?_ | refine gi_inc rfl ?_ | refine gi_sub (by omega) ?_ | refine gi_mul ?_ | refine go_nx rfl ?_)
      refine go_rt rfl ?_
      exact hq
    | succ m ih =>
      intro i hm he
      have hi : i < R.length := by omega
      rw [drop_getD (x := q_r0) hi, List.all_cons] at he
      have hii := hb.2 i hi
      have hcell : ∃ fs, h.2.2 (l.getD i 0) = some (.inr (7, fs)) := by
        obtain ⟨lo, hi', q, -⟩ := hii
        exact ⟨_, q⟩
      obtain ⟨fs, hcell⟩ := hcell
      repeat (first | refine gc_n3 rfl ?_ | refine gc_n6 rfl ?_ | refine gc_n7 rfl ?_ | refine gc_n8 rfl ?_ | refine gc_n9 rfl ?_ | refine gi_con ?_ | refine gi_bip (Nat.le_of_ble_eq_true rfl) ?_ | refine gi_sip (Nat.le_of_ble_eq_true rfl) ?_ | refine gi_ldc ?_ | refine gi_add ?_ | refine gi_inc rfl ?_ | refine gi_sub (by omega) ?_ | refine gi_mul ?_ | refine go_nx rfl ?_)
      refine go_step ?_
      refine g_callV (by decide) (by decide) (Nat.le_of_ble_eq_true rfl) (Nat.le_of_ble_eq_true rfl) (gL_rcv hl) (by omega) (Nat.le_of_ble_eq_true rfl) rfl ?_
      refine sp_lsize hl ?_
      rw [hl']
      first | refine gb_lt (by omega) (by omega) (fun c => ?_) (fun c => ?_) | refine gb_ge (by omega) (by omega) (fun c => ?_) (fun c => ?_) | refine gb_gt (by omega) (by omega) (fun c => ?_) (fun c => ?_) | refine gb_le (by omega) (by omega) (fun c => ?_) (fun c => ?_) | refine gb_eq (by omega) (by omega) (fun c => ?_) (fun c => ?_) | refine gb_ne (by omega) (by omega) (fun c => ?_) (fun c => ?_)
      · omega
      repeat (first | refine gc_n3 rfl ?_ | refine gc_n6 rfl ?_ | refine gc_n7 rfl ?_ | refine gc_n8 rfl ?_ | refine gc_n9 rfl ?_ | refine gi_con ?_ | refine gi_bip (Nat.le_of_ble_eq_true rfl) ?_ | refine gi_sip (Nat.le_of_ble_eq_true rfl) ?_ | refine gi_ldc ?_ | refine gi_add ?_ | refine gi_inc rfl ?_ | refine gi_sub (by omega) ?_ | refine gi_mul ?_ | refine go_nx rfl ?_)
      refine go_step ?_
      refine g_callV (by decide) (by decide) (Nat.le_of_ble_eq_true rfl) (Nat.le_of_ble_eq_true rfl) (gL_rcv hl) (by omega) (Nat.le_of_ble_eq_true rfl) rfl ?_
      refine sp_lget (by omega) hl (by omega) ?_
      refine gc_cast0 hcell rfl rfl ?_
      refine go_step ?_
      refine g_callV (by decide) (by decide) (Nat.le_of_ble_eq_true rfl) (Nat.le_of_ble_eq_true rfl) (o_rcv hcell rfl (by decide)) (by omega) (Nat.le_of_ble_eq_true rfl) rfl ?_
      refine sp_isPoint hbx hO hx (hR _ (getD_mem (x := q_r0) hi)) hii ?_
      refine gt_ne (fun c1 => ?_) (fun c1 => ?_)
      · rw [c1, Bool.true_and] at he
        repeat (first | refine gc_n3 rfl ?_ | refine gc_n6 rfl ?_ | refine gc_n7 rfl ?_ | refine gc_n8 rfl ?_ | refine gc_n9 rfl ?_ | refine gi_con ?_ | refine gi_bip (Nat.le_of_ble_eq_true rfl) ?_ | refine gi_sip (Nat.le_of_ble_eq_true rfl) ?_ | refine gi_ldc ?_ | refine gi_add ?_ | refine gi_inc rfl ?_ | refine gi_sub (by omega) ?_ | refine gi_mul ?_ | refine go_nx rfl ?_)
        refine go_jp rfl ?_
        exact ih (i + 1) (by omega) he
      · rw [c1, Bool.false_and] at he
        rw [he] at hq
        repeat (first | refine gc_n3 rfl ?_ | refine gc_n6 rfl ?_ | refine gc_n7 rfl ?_ | refine gc_n8 rfl ?_ | refine gc_n9 rfl ?_ | refine gi_con ?_ | refine gi_bip (Nat.le_of_ble_eq_true rfl) ?_ | refine gi_sip (Nat.le_of_ble_eq_true rfl) ?_ | refine gi_ldc ?_ | refine gi_add ?_ | refine gi_inc rfl ?_ | refine gi_sub (by omega) ?_ | refine gi_mul ?_ | refine go_nx rfl ?_)
        refine go_rt rfl ?_
        exact hq
  repeat (first | refine gc_n3 rfl ?_ | refine gc_n6 rfl ?_ | refine gc_n7 rfl ?_ | refine gc_n8 rfl ?_ | refine gc_n9 rfl ?_ | refine gi_con ?_ | refine gi_bip (Nat.le_of_ble_eq_true rfl) ?_ | refine gi_sip (Nat.le_of_ble_eq_true rfl) ?_ | refine gi_ldc ?_ | refine gi_add ?_ | refine gi_inc rfl ?_ | refine gi_sub (by omega) ?_ | refine gi_mul ?_ | refine go_nx rfl ?_)
  refine go_jp rfl ?_
  exact loop R.length 0 (by omega) rfl
variable {C N2 O2 : Nat → Nat} {row2 n2 : Nat}
theorem sw_pos {x : Int32} (hx : q_V x) : (0 < q_sw x ↔ x < 0) ∧ (q_sw x < 0 ↔ 0 < x) ∧ (q_sw x = 0 ↔ x = 0) := by
  rcases hx with q | q | q <;> subst q <;> decide
theorem V_sw {x : Int32} (hx : q_V x) : q_V (q_sw x) := by
  rcases hx with q | q | q <;> subst q <;> unfold q_V <;> decide
theorem sp_holds {a nd : Nat} {r : qR} (hd : 40 ≤ d) (hrow : q_row B n) (hbx : q_box (q_u8 B) B 16 0 n false = true) (hrow2 : q_row C n2) (hO : oIs (q_ord B B 17) (fun x => x ∈ q_pre B 16 0) O) (hx : fCx h row n B N O) (hr : rOk (fun x => x ∈ q_pre B 16 0) O r) (hlh : rLH r) (ha : iAt h N O a r) (hr2 : bRow h row2 n2 C) {l2 lim2 : Nat} (hl2 : l2 < 16) (hme2 : q_me C n2 4 l2) (hn2 : nEl h row2 C N2 O2 l2 lim2 4) (hnd : nd = N2 4)
    (hq : Q (some (.int (q_t (q_hold B C r)))) h) : mm_Go E d 99 (mm_blk 99 0) [.ref a, .ref nd, mm_un, mm_un] [] h Q := by
  subst hnd
  obtain ⟨lo, hi, a1, a2, a3⟩ := ha
  have hc2 : h.2.2 (N2 4) = some (.inr (4, [.ref row2, .int (nI (C 4)), .int (nI 4), .int (nI (q_ne C 4)), .int (nI (q_word C 4)), .int (nI (q_cls (C 4))), .int (q_tf C 4), .int (q_tt C 4), .long (q_nu C 4), q_fi C N2 4, q_nx C N2 lim2 4, .int (nI (O2 4))])) := hn2.1
  have kc := (q_me_cls hme2).2.2.2.2.2.2
  have r6 := hr.1.1
  have hcls := hr.2.2.1
  have a2' : h.2.2 lo = some (.inr (6, [.int (nI r.1.1), if r.1.2.1 = 1 then .ref (N r.1.2.2.2) else .null, .int (nI r.1.2.2.1), .int (nI (eLo O r.1)), .int (nI (eHi O r.1))])) := a2
  have a3' : h.2.2 hi = some (.inr (6, [.int (nI r.2.1), if r.2.2.1 = 1 then .ref (N r.2.2.2.2) else .null, .int (nI r.2.2.2.1), .int (nI (eLo O r.2)), .int (nI (eHi O r.2))])) := a3
  repeat (first | refine gc_n3 rfl ?_ | refine gc_n6 rfl ?_ | refine gc_n7 rfl ?_ | refine gc_n8 rfl ?_ | refine gc_n9 rfl ?_ | refine gi_con ?_ | refine gi_bip (Nat.le_of_ble_eq_true rfl) ?_ | refine gi_sip (Nat.le_of_ble_eq_true rfl) ?_ | refine gi_ldc ?_ | refine gi_add ?_ | refine gi_inc rfl ?_ | refine gi_sub (by omega) ?_ | refine gi_mul ?_ | refine go_nx rfl ?_)
  refine gf_get _ hc2 (by decide) rfl ?_
  repeat (first | refine gc_n3 rfl ?_ | refine gc_n6 rfl ?_ | refine gc_n7 rfl ?_ | refine gc_n8 rfl ?_ | refine gc_n9 rfl ?_ | refine gi_con ?_ | refine gi_bip (Nat.le_of_ble_eq_true rfl) ?_ | refine gi_sip (Nat.le_of_ble_eq_true rfl) ?_ | refine gi_ldc ?_ | refine gi_add ?_ | refine gi_inc rfl ?_ | refine gi_sub (by omega) ?_ | refine gi_mul ?_ | refine go_nx rfl ?_)
  refine gf_get _ a1 (by decide) rfl ?_
  refine gf_get _ a2' (by decide) rfl ?_
  first | refine gb_lt (by omega) (by omega) (fun c1 => ?_) (fun c1 => ?_) | refine gb_ge (by omega) (by omega) (fun c1 => ?_) (fun c1 => ?_) | refine gb_gt (by omega) (by omega) (fun c1 => ?_) (fun c1 => ?_) | refine gb_le (by omega) (by omega) (fun c1 => ?_) (fun c1 => ?_) | refine gb_eq (by omega) (by omega) (fun c1 => ?_) (fun c1 => ?_) | refine gb_ne (by omega) (by omega) (fun c1 => ?_) (fun c1 => ?_)
  rotate_left
  · have e : q_hold B C r = false := by
      unfold q_hold q_std
      have n1 : r.1.1 ≠ q_cls (C 4) := fun q => c1 q.symm
      have n2' : r.2.1 ≠ q_cls (C 4) := fun q => c1 (hcls.trans q).symm
      rw [if_pos n1, if_pos n2', ← hcls]
      rcases Nat.lt_or_gt_of_ne n1 with q | q
      · rw [c3_lt.mpr q]
        simp
      · rw [c3_gt.mpr q]
        simp
    rw [e] at hq
    repeat (first | refine gc_n3 rfl ?_ | refine gc_n6 rfl ?_ | refine gc_n7 rfl ?_ | refine gc_n8 rfl ?_ | refine gc_n9 rfl ?_ | refine gi_con ?_ | refine gi_bip (Nat.le_of_ble_eq_true rfl) ?_ | refine gi_sip (Nat.le_of_ble_eq_true rfl) ?_ | refine gi_ldc ?_ | refine gi_add ?_ | refine gi_inc rfl ?_ | refine gi_sub (by omega) ?_ | refine gi_mul ?_ | refine go_nx rfl ?_)
    refine go_rt rfl ?_
    exact hq
  /- how a place of the filter stands to the value -/
  have cmp : ∀ (x : qE) (Q' : Option Value → mmH → Prop), eOk (fun x => x ∈ q_pre B 16 0) x → x.2.1 = 1 → Q' (some (.int (q_sw (q_ord B C 17 x.2.2.2 4)))) h → mm_Go E (d - 1) 71 (mm_blk 71 0) [.ref (N2 4), .ref (N x.2.2.2), .int (nI 1)] [] h Q' := by
    intro x Q' hk hw hQ
    obtain ⟨l1, m1, b1, b2, b3⟩ := nBox_el hbx (Nat.le_refl _) hx.2 _ (hk.2.2.2 hw)
    rw [← ord_sw] at hQ
    exact sp_ccmp2 hr2 hx.1 hrow2 hrow 17 (d - 1) 4 x.2.2.2 l2 l1 lim2 m1 1 Q' (by omega) (by omega) (by omega) (by omega) hme2 b2 hn2 b3 hQ
  let LB := decide (q_std (q_ord B C 17) r.1 (q_cls (C 4), 1, 1, 4) < 0) || (decide (q_std (q_ord B C 17) r.1 (q_cls (C 4), 1, 1, 4) = 0) && decide (r.1.2.2.1 = 1))
  let HB := decide (0 < q_std (q_ord B C 17) r.2 (q_cls (C 4), 1, 1, 4)) || (decide (q_std (q_ord B C 17) r.2 (q_cls (C 4), 1, 1, 4) = 0) && decide (r.2.2.2.1 = 1))
  have hq : Q (some (.int (q_t (LB && HB)))) h := hq
  have sLo : ∀ z : Int32, (r.1.2.1 = 1 → z = q_sw (q_ord B C 17 r.1.2.2.2 4)) → (r.1.2.1 ≠ 1 → z = 1) → q_V z ∧ LB = (decide (0 < z) || (decide (z = 0) && decide (r.1.2.2.1 = 1))) := by
    intro z z1 z2
    show q_V z ∧ (decide (q_std (q_ord B C 17) r.1 (q_cls (C 4), 1, 1, 4) < 0) || (decide (q_std (q_ord B C 17) r.1 (q_cls (C 4), 1, 1, 4) = 0) && decide (r.1.2.2.1 = 1))) = _
    unfold q_std
    rw [if_neg (show ¬ r.1.1 ≠ q_cls (C 4) from fun q => q c1.symm)]
    by_cases hw : r.1.2.1 = 1
    · have hv := V_ord2 (B := B) (C := C) 17 r.1.2.2.2 4
      have sp := sw_pos hv
      rw [if_neg (show ¬ r.1.2.1 ≠ 1 from fun q => q hw), if_pos hw, z1 hw]
      refine ⟨?_, ?_⟩
      · exact V_sw hv
      · rw [decide_eq_decide.mpr sp.1, decide_eq_decide.mpr sp.2.2]
    · have hw0 : r.1.2.1 = 0 := by have := hlh.1; omega
      rw [if_pos (show r.1.2.1 ≠ 1 from hw), z2 hw, hw0]
      refine ⟨Or.inr (Or.inr rfl), ?_⟩
      show (decide (q_c3 0 1 < 0) || _) = (decide ((0 : Int32) < 1) || _)
      rw [show decide (q_c3 0 1 < 0) = true by decide, show decide ((0 : Int32) < 1) = true by decide, Bool.true_or, Bool.true_or]
  have sHi : ∀ z : Int32, (r.2.2.1 = 1 → z = q_sw (q_ord B C 17 r.2.2.2.2 4)) → (r.2.2.1 ≠ 1 → z = -1) → q_V z ∧ HB = (decide (z < 0) || (decide (z = 0) && decide (r.2.2.2.1 = 1))) := by
    intro z z1 z2
    show q_V z ∧ (decide (0 < q_std (q_ord B C 17) r.2 (q_cls (C 4), 1, 1, 4)) || (decide (q_std (q_ord B C 17) r.2 (q_cls (C 4), 1, 1, 4) = 0) && decide (r.2.2.2.1 = 1))) = _
    unfold q_std
    rw [if_neg (show ¬ r.2.1 ≠ q_cls (C 4) from fun q => q (hcls.symm.trans c1.symm))]
    by_cases hw : r.2.2.1 = 1
    · have hv := V_ord2 (B := B) (C := C) 17 r.2.2.2.2 4
      have sp := sw_pos hv
      rw [if_neg (show ¬ r.2.2.1 ≠ 1 from fun q => q hw), if_pos hw, z1 hw]
      refine ⟨?_, ?_⟩
      · exact V_sw hv
      · rw [decide_eq_decide.mpr sp.2.1, decide_eq_decide.mpr sp.2.2]
    · have hw0 : r.2.2.1 = 2 := by have := hlh.2; have := hr.2.1.2.1; omega
      rw [if_pos (show r.2.2.1 ≠ 1 from hw), z2 hw, hw0]
      refine ⟨Or.inl rfl, ?_⟩
      show (decide (0 < q_c3 2 1) || _) = (decide ((-1 : Int32) < 0) || _)
      rw [show decide (0 < q_c3 2 1) = true by decide, show decide ((-1 : Int32) < 0) = true by decide, Bool.true_or, Bool.true_or]
  have i1 := hr.1.2.2.1
  have i2 := hr.2.1.2.2.1
  have eight : (LB && HB) = false → ∀ z y : Int32, mm_Go E d 99 (mm_blk 99 8) [.ref a, .ref (N2 4), .int z, .int y] [] h Q := by
    intro e z y
    rw [e] at hq
    repeat (first | refine gc_n3 rfl ?_ | refine gc_n6 rfl ?_ | refine gc_n7 rfl ?_ | refine gc_n8 rfl ?_ | refine gc_n9 rfl ?_ | refine gi_con ?_ | refine gi_bip (Nat.le_of_ble_eq_true rfl) ?_ | refine gi_sip (Nat.le_of_ble_eq_true rfl) ?_ | refine gi_ldc ?_ | refine gi_add ?_ | refine gi_inc rfl ?_ | refine gi_sub (by omega) ?_ | refine gi_mul ?_ | refine go_nx rfl ?_)
    refine go_jp rfl ?_
    refine go_rt rfl ?_
    exact hq
  have five : ∀ z y : Int32, q_V z → q_V y → LB = (decide (0 < z) || (decide (z = 0) && decide (r.1.2.2.1 = 1))) → HB = (decide (y < 0) || (decide (y = 0) && decide (r.2.2.2.1 = 1))) → mm_Go E d 99 (mm_blk 99 5) [.ref a, .ref (N2 4), .int z, mm_un] [.int y] h Q := by
    intro z y vz vy hL hH
    have seven : LB = true → HB = true → mm_Go E d 99 (mm_blk 99 7) [.ref a, .ref (N2 4), .int z, .int y] [] h Q := by
      intro e1 e2
      rw [e1, e2] at hq
      repeat (first | refine gc_n3 rfl ?_ | refine gc_n6 rfl ?_ | refine gc_n7 rfl ?_ | refine gc_n8 rfl ?_ | refine gc_n9 rfl ?_ | refine gi_con ?_ | refine gi_bip (Nat.le_of_ble_eq_true rfl) ?_ | refine gi_sip (Nat.le_of_ble_eq_true rfl) ?_ | refine gi_ldc ?_ | refine gi_add ?_ | refine gi_inc rfl ?_ | refine gi_sub (by omega) ?_ | refine gi_mul ?_ | refine go_nx rfl ?_)
      refine go_jp rfl ?_
      refine go_rt rfl ?_
      exact hq
    have six : LB = true → mm_Go E d 99 (mm_blk 99 6) [.ref a, .ref (N2 4), .int z, .int y] [] h Q := by
      intro e1
      repeat (first | refine gc_n3 rfl ?_ | refine gc_n6 rfl ?_ | refine gc_n7 rfl ?_ | refine gc_n8 rfl ?_ | refine gc_n9 rfl ?_ | refine gi_con ?_ | refine gi_bip (Nat.le_of_ble_eq_true rfl) ?_ | refine gi_sip (Nat.le_of_ble_eq_true rfl) ?_ | refine gi_ldc ?_ | refine gi_add ?_ | refine gi_inc rfl ?_ | refine gi_sub (by omega) ?_ | refine gi_mul ?_ | refine go_nx rfl ?_)
      refine gx_lt (fun c2 => ?_) (fun c2 => ?_)
      · exact seven e1 (by rw [hH, decide_eq_true c2]; rfl)
      repeat (first | refine gc_n3 rfl ?_ | refine gc_n6 rfl ?_ | refine gc_n7 rfl ?_ | refine gc_n8 rfl ?_ | refine gc_n9 rfl ?_ | refine gi_con ?_ | refine gi_bip (Nat.le_of_ble_eq_true rfl) ?_ | refine gi_sip (Nat.le_of_ble_eq_true rfl) ?_ | refine gi_ldc ?_ | refine gi_add ?_ | refine gi_inc rfl ?_ | refine gi_sub (by omega) ?_ | refine gi_mul ?_ | refine go_nx rfl ?_)
      refine gx_ne (fun c3 => ?_) (fun c3 => ?_)
      · exact eight (by rw [hH, decide_eq_false c2, decide_eq_false c3]; cases LB <;> rfl) z y
      repeat (first | refine gc_n3 rfl ?_ | refine gc_n6 rfl ?_ | refine gc_n7 rfl ?_ | refine gc_n8 rfl ?_ | refine gc_n9 rfl ?_ | refine gi_con ?_ | refine gi_bip (Nat.le_of_ble_eq_true rfl) ?_ | refine gi_sip (Nat.le_of_ble_eq_true rfl) ?_ | refine gi_ldc ?_ | refine gi_add ?_ | refine gi_inc rfl ?_ | refine gi_sub (by omega) ?_ | refine gi_mul ?_ | refine go_nx rfl ?_)
      refine gf_get _ a1 (by decide) rfl ?_
      refine gf_get _ a3' (by decide) rfl ?_
      first | refine gz_eq (by omega) (fun c4 => ?_) (fun c4 => ?_) | refine gz_ne (by omega) (fun c4 => ?_) (fun c4 => ?_) | refine gz_le (by omega) (fun c4 => ?_) (fun c4 => ?_) | refine gz_gt (by omega) (fun c4 => ?_) (fun c4 => ?_) | refine gz_lt (by omega) (fun c4 => ?_) (fun c4 => ?_) | refine gz_ge (by omega) (fun c4 => ?_) (fun c4 => ?_)
      · exact eight (by rw [hH, decide_eq_false c2, decide_eq_false (show ¬ r.2.2.2.1 = 1 by omega)]; cases LB <;> cases decide (y = 0) <;> rfl) z y
      repeat (first | refine gc_n3 rfl ?_ | refine gc_n6 rfl ?_ | refine gc_n7 rfl ?_ | refine gc_n8 rfl ?_ | refine gc_n9 rfl ?_ | refine gi_con ?_ | refine gi_bip (Nat.le_of_ble_eq_true rfl) ?_ | refine gi_sip (Nat.le_of_ble_eq_true rfl) ?_ | refine gi_ldc ?_ | refine gi_add ?_ | refine gi_inc rfl ?_ | refine gi_sub (by omega) ?_ | refine gi_mul ?_ | refine go_nx rfl ?_)
      refine go_jp rfl ?_
      exact seven e1 (by rw [hH, decide_eq_true c3, decide_eq_true (show r.2.2.2.1 = 1 by omega)]; cases decide (y < 0) <;> rfl)
    repeat (first | refine gc_n3 rfl ?_ | refine gc_n6 rfl ?_ | refine gc_n7 rfl ?_ | refine gc_n8 rfl ?_ | refine gc_n9 rfl ?_ | refine gi_con ?_ | refine gi_bip (Nat.le_of_ble_eq_true rfl) ?_ | refine gi_sip (Nat.le_of_ble_eq_true rfl) ?_ | refine gi_ldc ?_ | refine gi_add ?_ | refine gi_inc rfl ?_ | refine gi_sub (by omega) ?_ | refine gi_mul ?_ | refine go_nx rfl ?_)
    refine gx_gt (fun c2 => ?_) (fun c2 => ?_)
    · exact six (by rw [hL, decide_eq_true c2]; rfl)
    repeat (first | refine gc_n3 rfl ?_ | refine gc_n6 rfl ?_ | refine gc_n7 rfl ?_ | refine gc_n8 rfl ?_ | refine gc_n9 rfl ?_ | refine gi_con ?_ | refine gi_bip (Nat.le_of_ble_eq_true rfl) ?_ | refine gi_sip (Nat.le_of_ble_eq_true rfl) ?_ | refine gi_ldc ?_ | refine gi_add ?_ | refine gi_inc rfl ?_ | refine gi_sub (by omega) ?_ | refine gi_mul ?_ | refine go_nx rfl ?_)
    refine gx_ne (fun c3 => ?_) (fun c3 => ?_)
    · exact eight (by rw [hL, decide_eq_false c2, decide_eq_false c3]; rfl) z y
    repeat (first | refine gc_n3 rfl ?_ | refine gc_n6 rfl ?_ | refine gc_n7 rfl ?_ | refine gc_n8 rfl ?_ | refine gc_n9 rfl ?_ | refine gi_con ?_ | refine gi_bip (Nat.le_of_ble_eq_true rfl) ?_ | refine gi_sip (Nat.le_of_ble_eq_true rfl) ?_ | refine gi_ldc ?_ | refine gi_add ?_ | refine gi_inc rfl ?_ | refine gi_sub (by omega) ?_ | refine gi_mul ?_ | refine go_nx rfl ?_)
    refine gf_get _ a1 (by decide) rfl ?_
    refine gf_get _ a2' (by decide) rfl ?_
    first | refine gz_eq (by omega) (fun c4 => ?_) (fun c4 => ?_) | refine gz_ne (by omega) (fun c4 => ?_) (fun c4 => ?_) | refine gz_le (by omega) (fun c4 => ?_) (fun c4 => ?_) | refine gz_gt (by omega) (fun c4 => ?_) (fun c4 => ?_) | refine gz_lt (by omega) (fun c4 => ?_) (fun c4 => ?_) | refine gz_ge (by omega) (fun c4 => ?_) (fun c4 => ?_)
    · exact eight (by rw [hL, decide_eq_false c2, decide_eq_false (show ¬ r.1.2.2.1 = 1 by omega)]; cases decide (z = 0) <;> rfl) z y
    repeat (first | refine gc_n3 rfl ?_ | refine gc_n6 rfl ?_ | refine gc_n7 rfl ?_ | refine gc_n8 rfl ?_ | refine gc_n9 rfl ?_ | refine gi_con ?_ | refine gi_bip (Nat.le_of_ble_eq_true rfl) ?_ | refine gi_sip (Nat.le_of_ble_eq_true rfl) ?_ | refine gi_ldc ?_ | refine gi_add ?_ | refine gi_inc rfl ?_ | refine gi_sub (by omega) ?_ | refine gi_mul ?_ | refine go_nx rfl ?_)
    refine go_jp rfl ?_
    exact six (by rw [hL, decide_eq_true c3, decide_eq_true (show r.1.2.2.1 = 1 by omega)]; cases decide (0 < z) <;> rfl)
  have three : ∀ z : Int32, q_V z → LB = (decide (0 < z) || (decide (z = 0) && decide (r.1.2.2.1 = 1))) → mm_Go E d 99 (mm_blk 99 3) [.ref a, .ref (N2 4), mm_un, mm_un] [.int z] h Q := by
    intro z vz hL
    repeat (first | refine gc_n3 rfl ?_ | refine gc_n6 rfl ?_ | refine gc_n7 rfl ?_ | refine gc_n8 rfl ?_ | refine gc_n9 rfl ?_ | refine gi_con ?_ | refine gi_bip (Nat.le_of_ble_eq_true rfl) ?_ | refine gi_sip (Nat.le_of_ble_eq_true rfl) ?_ | refine gi_ldc ?_ | refine gi_add ?_ | refine gi_inc rfl ?_ | refine gi_sub (by omega) ?_ | refine gi_mul ?_ | refine go_nx rfl ?_)
    refine gf_get _ a1 (by decide) rfl ?_
    by_cases hw : r.2.2.1 = 1
    · have a4 := a3
      rw [eC_1 hw] at a4
      refine gf_get _ a4 (by decide) rfl ?_
      refine gn_nnR ?_
      repeat (first | refine gc_n3 rfl ?_ | refine gc_n6 rfl ?_ | refine gc_n7 rfl ?_ | refine gc_n8 rfl ?_ | refine gc_n9 rfl ?_ | refine gi_con ?_ | refine gi_bip (Nat.le_of_ble_eq_true rfl) ?_ | refine gi_sip (Nat.le_of_ble_eq_true rfl) ?_ | refine gi_ldc ?_ | refine gi_add ?_ | refine gi_inc rfl ?_ | refine gi_sub (by omega) ?_ | refine gi_mul ?_ | refine go_nx rfl ?_)
      refine gf_get _ a1 (by decide) rfl ?_
      refine gf_get _ a4 (by decide) rfl ?_
      repeat (first | refine gc_n3 rfl ?_ | refine gc_n6 rfl ?_ | refine gc_n7 rfl ?_ | refine gc_n8 rfl ?_ | refine gc_n9 rfl ?_ | refine gi_con ?_ | refine gi_bip (Nat.le_of_ble_eq_true rfl) ?_ | refine gi_sip (Nat.le_of_ble_eq_true rfl) ?_ | refine gi_ldc ?_ | refine gi_add ?_ | refine gi_inc rfl ?_ | refine gi_sub (by omega) ?_ | refine gi_mul ?_ | refine go_nx rfl ?_)
      refine go_step ?_
      refine g_call (k := 71) rfl (by omega) (Nat.le_of_ble_eq_true rfl) rfl ?_
      refine cmp r.2 _ hr.2.1 hw ?_
      refine go_jp rfl ?_
      obtain ⟨v1, v2⟩ := sHi _ (fun _ => rfl) (fun q => absurd hw q)
      exact five z _ vz v1 hL v2
    · have a4 := a3
      rw [eC_0 hw] at a4
      refine gf_get _ a4 (by decide) rfl ?_
      refine gn_nnN ?_
      repeat (first | refine gc_n3 rfl ?_ | refine gc_n6 rfl ?_ | refine gc_n7 rfl ?_ | refine gc_n8 rfl ?_ | refine gc_n9 rfl ?_ | refine gi_con ?_ | refine gi_bip (Nat.le_of_ble_eq_true rfl) ?_ | refine gi_sip (Nat.le_of_ble_eq_true rfl) ?_ | refine gi_ldc ?_ | refine gi_add ?_ | refine gi_inc rfl ?_ | refine gi_sub (by omega) ?_ | refine gi_mul ?_ | refine go_nx rfl ?_)
      refine go_jp rfl ?_
      obtain ⟨v1, v2⟩ := sHi _ (fun q => absurd q hw) (fun _ => rfl)
      exact five z _ vz v1 hL v2
  repeat (first | refine gc_n3 rfl ?_ | refine gc_n6 rfl ?_ | refine gc_n7 rfl ?_ | refine gc_n8 rfl ?_ | refine gc_n9 rfl ?_ | refine gi_con ?_ | refine gi_bip (Nat.le_of_ble_eq_true rfl) ?_ | refine gi_sip (Nat.le_of_ble_eq_true rfl) ?_ | refine gi_ldc ?_ | refine gi_add ?_ | refine gi_inc rfl ?_ | refine gi_sub (by omega) ?_ | refine gi_mul ?_ | refine go_nx rfl ?_)
  refine gf_get _ a1 (by decide) rfl ?_
  by_cases hw : r.1.2.1 = 1
  · have a4 := a2
    rw [eC_1 hw] at a4
    refine gf_get _ a4 (by decide) rfl ?_
    refine gn_nnR ?_
    repeat (first | refine gc_n3 rfl ?_ | refine gc_n6 rfl ?_ | refine gc_n7 rfl ?_ | refine gc_n8 rfl ?_ | refine gc_n9 rfl ?_ | refine gi_con ?_ | refine gi_bip (Nat.le_of_ble_eq_true rfl) ?_ | refine gi_sip (Nat.le_of_ble_eq_true rfl) ?_ | refine gi_ldc ?_ | refine gi_add ?_ | refine gi_inc rfl ?_ | refine gi_sub (by omega) ?_ | refine gi_mul ?_ | refine go_nx rfl ?_)
    refine gf_get _ a1 (by decide) rfl ?_
    refine gf_get _ a4 (by decide) rfl ?_
    repeat (first | refine gc_n3 rfl ?_ | refine gc_n6 rfl ?_ | refine gc_n7 rfl ?_ | refine gc_n8 rfl ?_ | refine gc_n9 rfl ?_ | refine gi_con ?_ | refine gi_bip (Nat.le_of_ble_eq_true rfl) ?_ | refine gi_sip (Nat.le_of_ble_eq_true rfl) ?_ | refine gi_ldc ?_ | refine gi_add ?_ | refine gi_inc rfl ?_ | refine gi_sub (by omega) ?_ | refine gi_mul ?_ | refine go_nx rfl ?_)
    refine go_step ?_
    refine g_call (k := 71) rfl (by omega) (Nat.le_of_ble_eq_true rfl) rfl ?_
    refine cmp r.1 _ hr.1 hw ?_
    refine go_jp rfl ?_
    obtain ⟨v1, v2⟩ := sLo _ (fun _ => rfl) (fun q => absurd hw q)
    exact three _ v1 v2
  · have a4 := a2
    rw [eC_0 hw] at a4
    refine gf_get _ a4 (by decide) rfl ?_
    refine gn_nnN ?_
    repeat (first | refine gc_n3 rfl ?_ | refine gc_n6 rfl ?_ | refine gc_n7 rfl ?_ | refine gc_n8 rfl ?_ | refine gc_n9 rfl ?_ | refine gi_con ?_ | refine gi_bip (Nat.le_of_ble_eq_true rfl) ?_ | refine gi_sip (Nat.le_of_ble_eq_true rfl) ?_ | refine gi_ldc ?_ | refine gi_add ?_ | refine gi_inc rfl ?_ | refine gi_sub (by omega) ?_ | refine gi_mul ?_ | refine go_nx rfl ?_)
    refine go_jp rfl ?_
    obtain ⟨v1, v2⟩ := sLo _ (fun q => absurd q hw) (fun _ => rfl)
    exact three _ v1 v2
theorem sp_hold {a cap nd : Nat} {l : List Nat} {R : List qR} (hd : 41 ≤ d) (hrow : q_row B n) (hbx : q_box (q_u8 B) B 16 0 n false = true) (hrow2 : q_row C n2) (hO : oIs (q_ord B B 17) (fun x => x ∈ q_pre B 16 0) O) (hx : fCx h row n B N O) (hl : gL E h own a cap l) (hb : bR h N O l R) (hR : ∀ r ∈ R, rOk (fun x => x ∈ q_pre B 16 0) O r ∧ rLH r) (hlen : R.length ≤ 2000) (hr2 : bRow h row2 n2 C) {l2 lim2 : Nat} (hl2 : l2 < 16) (hme2 : q_me C n2 4 l2) (hn2 : nEl h row2 C N2 O2 l2 lim2 4) (hnd : nd = N2 4)
    (hq : Q (some (.int (q_t (R.any (q_hold B C))))) h) : mm_Go E d 98 (mm_blk 98 0) [.ref a, .ref nd, mm_un] [] h Q := by
  have hl' := hb.1
  have loop : ∀ (m i : Nat), m + i = R.length → R.any (q_hold B C) = (R.drop i).any (q_hold B C) → mm_Go E d 98 (mm_blk 98 1) [.ref a, .ref nd, .int (nI i)] [] h Q := by
    intro m
    induction m with
    | zero =>
      intro i hm he
      rw [show i = R.length by omega, List.drop_length] at he
      rw [he] at hq
      repeat (first | refine gc_n3 rfl ?_ | refine gc_n6 rfl ?_ | refine gc_n7 rfl ?_ | refine gc_n8 rfl ?_ | refine gc_n9 rfl ?_ | refine gi_con ?_ | refine gi_bip (Nat.le_of_ble_eq_true rfl) ?_ | refine gi_sip (Nat.le_of_ble_eq_true rfl) ?_ | refine gi_ldc ?_ | refine gi_add ?_ | refine gi_inc rfl ?_ | refine gi_sub (by omega) ?_ | refine gi_mul ?_ | refine go_nx rfl ?_)
      refine go_step ?_
      refine g_callV (by decide) (by decide) (Nat.le_of_ble_eq_true rfl) (Nat.le_of_ble_eq_true rfl) (gL_rcv hl) (by omega) (Nat.le_of_ble_eq_true rfl) rfl ?_
      refine sp_lsize hl ?_
      rw [hl']
      first | refine gb_lt (by omega) (by omega) (fun c => ?_) (fun c => ?_) | refine gb_ge (by omega) (by omega) (fun c => ?_) (fun c => ?_) | refine gb_gt (by omega) (by omega) (fun c => ?_) (fun c => ?_) | refine gb_le (by omega) (by omega) (fun c => ?_) (fun c => ?_) | refine gb_eq (by omega) (by omega) (fun c => ?_) (fun c => ?_) | refine gb_ne (by omega) (by omega) (fun c => ?_) (fun c => ?_)
      rotate_left
      · omega
      repeat (first | refine gc_n3 rfl ?_ | refine gc_n6 rfl ?_ | refine gc_n7 rfl ?_ | refine gc_n8 rfl ?_ | refine gc_n9 rfl ?_ | refine gi_con ?_ | refine gi_bip (Nat.le_of_ble_eq_true rfl) ?_ | refine gi_sip (Nat.le_of_ble_eq_true rfl) ?_ | refine gi_ldc ?_ | refine gi_add ?_ | refine gi_inc rfl ?_ | refine gi_sub (by omega) ?_ | refine gi_mul ?_ | refine go_nx rfl ?_)
      refine go_rt rfl ?_
      exact hq
    | succ m ih =>
      intro i hm he
      have hi : i < R.length := by omega
      rw [drop_getD (x := q_r0) hi, List.any_cons] at he
      have hii := hb.2 i hi
      have hcell : ∃ fs, h.2.2 (l.getD i 0) = some (.inr (7, fs)) := by
        obtain ⟨lo, hi', q, -⟩ := hii
        exact ⟨_, q⟩
      obtain ⟨fs, hcell⟩ := hcell
      have hok := hR _ (getD_mem (x := q_r0) hi)
      repeat (first | refine gc_n3 rfl ?_ | refine gc_n6 rfl ?_ | refine gc_n7 rfl ?_ | refine gc_n8 rfl ?_ | refine gc_n9 rfl ?_ | refine gi_con ?_ | refine gi_bip (Nat.le_of_ble_eq_true rfl) ?_ | refine gi_sip (Nat.le_of_ble_eq_true rfl) ?_ | refine gi_ldc ?_ | refine gi_add ?_ | refine gi_inc rfl ?_ | refine gi_sub (by omega) ?_ | refine gi_mul ?_ | refine go_nx rfl ?_)
      refine go_step ?_
      refine g_callV (by decide) (by decide) (Nat.le_of_ble_eq_true rfl) (Nat.le_of_ble_eq_true rfl) (gL_rcv hl) (by omega) (Nat.le_of_ble_eq_true rfl) rfl ?_
      refine sp_lsize hl ?_
      rw [hl']
      first | refine gb_lt (by omega) (by omega) (fun c => ?_) (fun c => ?_) | refine gb_ge (by omega) (by omega) (fun c => ?_) (fun c => ?_) | refine gb_gt (by omega) (by omega) (fun c => ?_) (fun c => ?_) | refine gb_le (by omega) (by omega) (fun c => ?_) (fun c => ?_) | refine gb_eq (by omega) (by omega) (fun c => ?_) (fun c => ?_) | refine gb_ne (by omega) (by omega) (fun c => ?_) (fun c => ?_)
      · omega
      repeat (first | refine gc_n3 rfl ?_ | refine gc_n6 rfl ?_ | refine gc_n7 rfl ?_ | refine gc_n8 rfl ?_ | refine gc_n9 rfl ?_ | refine gi_con ?_ | refine gi_bip (Nat.le_of_ble_eq_true rfl) ?_ | refine gi_sip (Nat.le_of_ble_eq_true rfl) ?_ | refine gi_ldc ?_ | refine gi_add ?_ | refine gi_inc rfl ?_ | refine gi_sub (by omega) ?_ | refine gi_mul ?_ | refine go_nx rfl ?_)
      refine go_step ?_
      refine g_callV (by decide) (by decide) (Nat.le_of_ble_eq_true rfl) (Nat.le_of_ble_eq_true rfl) (gL_rcv hl) (by omega) (Nat.le_of_ble_eq_true rfl) rfl ?_
      refine sp_lget (by omega) hl (by omega) ?_
      refine gc_cast0 hcell rfl rfl ?_
      repeat (first | refine gc_n3 rfl ?_ | refine gc_n6 rfl ?_ | refine gc_n7 rfl ?_ | refine gc_n8 rfl ?_ | refine gc_n9 rfl ?_ | refine gi_con ?_ | refine gi_bip (Nat.le_of_ble_eq_true rfl) ?_ | refine gi_sip (Nat.le_of_ble_eq_true rfl) ?_ | refine gi_ldc ?_ | refine gi_add ?_ | refine gi_inc rfl ?_ | refine gi_sub (by omega) ?_ | refine gi_mul ?_ | refine go_nx rfl ?_)
      refine go_step ?_
      refine g_callV (by decide) (by decide) (Nat.le_of_ble_eq_true rfl) (Nat.le_of_ble_eq_true rfl) (o_rcv hcell rfl (by decide)) (by omega) (Nat.le_of_ble_eq_true rfl) rfl ?_
      refine sp_holds (by omega) hrow hbx hrow2 hO hx hok.1 hok.2 hii hr2 hl2 hme2 hn2 hnd ?_
      refine gt_eq (fun c1 => ?_) (fun c1 => ?_)
      · rw [c1, Bool.false_or] at he
        repeat (first | refine gc_n3 rfl ?_ | refine gc_n6 rfl ?_ | refine gc_n7 rfl ?_ | refine gc_n8 rfl ?_ | refine gc_n9 rfl ?_ | refine gi_con ?_ | refine gi_bip (Nat.le_of_ble_eq_true rfl) ?_ | refine gi_sip (Nat.le_of_ble_eq_true rfl) ?_ | refine gi_ldc ?_ | refine gi_add ?_ | refine gi_inc rfl ?_ | refine gi_sub (by omega) ?_ | refine gi_mul ?_ | refine go_nx rfl ?_)
        refine go_jp rfl ?_
        exact ih (i + 1) (by omega) he
      · rw [c1, Bool.true_or] at he
        rw [he] at hq
        repeat (first | refine gc_n3 rfl ?_ | refine gc_n6 rfl ?_ | refine gc_n7 rfl ?_ | refine gc_n8 rfl ?_ | refine gc_n9 rfl ?_ | refine gi_con ?_ | refine gi_bip (Nat.le_of_ble_eq_true rfl) ?_ | refine gi_sip (Nat.le_of_ble_eq_true rfl) ?_ | refine gi_ldc ?_ | refine gi_add ?_ | refine gi_inc rfl ?_ | refine gi_sub (by omega) ?_ | refine gi_mul ?_ | refine go_nx rfl ?_)
        refine go_rt rfl ?_
        exact hq
  repeat (first | refine gc_n3 rfl ?_ | refine gc_n6 rfl ?_ | refine gc_n7 rfl ?_ | refine gc_n8 rfl ?_ | refine gc_n9 rfl ?_ | refine gi_con ?_ | refine gi_bip (Nat.le_of_ble_eq_true rfl) ?_ | refine gi_sip (Nat.le_of_ble_eq_true rfl) ?_ | refine gi_ldc ?_ | refine gi_add ?_ | refine gi_inc rfl ?_ | refine gi_sub (by omega) ?_ | refine gi_mul ?_ | refine go_nx rfl ?_)
  refine go_jp rfl ?_
  exact loop R.length 0 (by omega) rfl
end C
