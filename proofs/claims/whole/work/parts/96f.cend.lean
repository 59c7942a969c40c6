/-! THE CLASS: end, inside -/
theorem sw_neg {dd : Nat} {bs : List Nat} {x : Int32} (hx : x < 0) : mm_sw dd 0 bs x = dd := by
  unfold mm_sw
  rw [if_pos]
  have := Int32.lt_iff_toInt_lt.mp hx
  simpa using this
theorem sw_ge {dd : Nat} {x : Int32} (a b c e : Nat) (hx : 4 ≤ x) : mm_sw dd 0 [a, b, c, e] x = dd := by
  have h1 : (4 : Int) ≤ x.toInt := by
    have := Int32.le_iff_toInt_le.mp hx
    simpa using this
  unfold mm_sw
  rw [if_neg (by omega)]
  have h2 : 4 ≤ (x.toInt - 0).toNat := by omega
  obtain ⟨k, hk⟩ : ∃ k, (x.toInt - 0).toNat = k + 4 := ⟨(x.toInt - 0).toNat - 4, by omega⟩
  rw [hk]
  rfl
section C
variable {E : mmE} {d : Nat} {h : mmH} {Q : Option Value → mmH → Prop} {B N O : Nat → Nat} {row : Nat} {own : Nat → Nat} {ta o : Nat} {t : qB} {F V : Option qB} {X : Nat → Option qX} {pa : Nat} {pl hl : Value} {f : Nat → Int32} {g : Nat → Option Nat}
theorem sp_cend {i w k what : Int32} {high : Bool} (hd : 6 ≤ d) (hI : cIx E h own o t F V X ta pa pl hl f g N O row B) (hq : ∀ h', cSm E h own o t F V X ta pa pl hl f g N O row B h' → Q (some (.int (a_end F X i w k high what))) h') : mm_Go E d 96 (mm_blk 96 0) [.ref o, .int i, .int w, .int k, .int (q_t high), .int what, mm_un, mm_un, mm_un, mm_un] [] h Q := by
  have hnone : (q_pth X i w = none ∨ F = none) → a_end F X i w k high what = -2 := by
    intro q
    unfold a_end
    rcases q with q | q
    · rw [q]
    · rw [q]
      cases q_pth X i w <;> rfl
  repeat (first | refine gc_n3 rfl ?_ | refine gc_n6 rfl ?_ | refine gc_n7 rfl ?_ | refine gc_n8 rfl ?_ | refine gc_n9 rfl ?_ | refine gi_con ?_ | refine gi_bip (Nat.le_of_ble_eq_true rfl) ?_ | refine gi_sip (Nat.le_of_ble_eq_true rfl) ?_ | refine gi_ldc ?_ | refine gi_add ?_ | refine gi_inc rfl ?_ | refine gi_sub (by omega) ?_ | refine gi_mul ?_ | refine go_nx rfl ?_)
  refine go_step ?_
  refine g_callV (by decide) (by decide) (Nat.le_of_ble_eq_true rfl) (Nat.le_of_ble_eq_true rfl) (cIx_rcv hI) (by omega) (Nat.le_of_ble_eq_true rfl) rfl ?_
  refine sp_pathAt hI (fun e => ?_) (fun p a kk ww e hk hww ei ew hg hs => ?_)
  · have := hq h (cSm_r hI)
    rw [hnone (Or.inl e)] at this
    repeat (first | refine gc_n3 rfl ?_ | refine gc_n6 rfl ?_ | refine gc_n7 rfl ?_ | refine gc_n8 rfl ?_ | refine gc_n9 rfl ?_ | refine gi_con ?_ | refine gi_bip (Nat.le_of_ble_eq_true rfl) ?_ | refine gi_sip (Nat.le_of_ble_eq_true rfl) ?_ | refine gi_ldc ?_ | refine gi_add ?_ | refine gi_inc rfl ?_ | refine gi_sub (by omega) ?_ | refine gi_mul ?_ | refine go_nx rfl ?_)
    refine gn_nN ?_
    repeat (first | refine gc_n3 rfl ?_ | refine gc_n6 rfl ?_ | refine gc_n7 rfl ?_ | refine gc_n8 rfl ?_ | refine gc_n9 rfl ?_ | refine gi_con ?_ | refine gi_bip (Nat.le_of_ble_eq_true rfl) ?_ | refine gi_sip (Nat.le_of_ble_eq_true rfl) ?_ | refine gi_ldc ?_ | refine gi_add ?_ | refine gi_inc rfl ?_ | refine gi_sub (by omega) ?_ | refine gi_mul ?_ | refine go_nx rfl ?_)
    refine go_rt rfl ?_
    exact this
  subst ei ew
  have e2 : q_pt2 X kk ww = some p := by rw [← q_pth_2 hk hww]; exact e
  cases hF : F with
  | none =>
    have hpl := hI.2.2.2.2.1 hF
    subst hpl
    have := hq h (cSm_r hI)
    rw [hnone (Or.inr hF)] at this
    repeat (first | refine gc_n3 rfl ?_ | refine gc_n6 rfl ?_ | refine gc_n7 rfl ?_ | refine gc_n8 rfl ?_ | refine gc_n9 rfl ?_ | refine gi_con ?_ | refine gi_bip (Nat.le_of_ble_eq_true rfl) ?_ | refine gi_sip (Nat.le_of_ble_eq_true rfl) ?_ | refine gi_ldc ?_ | refine gi_add ?_ | refine gi_inc rfl ?_ | refine gi_sub (by omega) ?_ | refine gi_mul ?_ | refine go_nx rfl ?_)
    refine gn_nR ?_
    repeat (first | refine gc_n3 rfl ?_ | refine gc_n6 rfl ?_ | refine gc_n7 rfl ?_ | refine gc_n8 rfl ?_ | refine gc_n9 rfl ?_ | refine gi_con ?_ | refine gi_bip (Nat.le_of_ble_eq_true rfl) ?_ | refine gi_sip (Nat.le_of_ble_eq_true rfl) ?_ | refine gi_ldc ?_ | refine gi_add ?_ | refine gi_inc rfl ?_ | refine gi_sub (by omega) ?_ | refine gi_mul ?_ | refine go_nx rfl ?_)
    refine gf_get _ (cIx_o hI) (by decide) rfl ?_
    refine gn_nnN ?_
    repeat (first | refine gc_n3 rfl ?_ | refine gc_n6 rfl ?_ | refine gc_n7 rfl ?_ | refine gc_n8 rfl ?_ | refine gc_n9 rfl ?_ | refine gi_con ?_ | refine gi_bip (Nat.le_of_ble_eq_true rfl) ?_ | refine gi_sip (Nat.le_of_ble_eq_true rfl) ?_ | refine gi_ldc ?_ | refine gi_add ?_ | refine gi_inc rfl ?_ | refine gi_sub (by omega) ?_ | refine gi_mul ?_ | refine go_nx rfl ?_)
    refine go_jp rfl ?_
    repeat (first | refine gc_n3 rfl ?_ | refine gc_n6 rfl ?_ | refine gc_n7 rfl ?_ | refine gc_n8 rfl ?_ | refine gc_n9 rfl ?_ | refine gi_con ?_ | refine gi_bip (Nat.le_of_ble_eq_true rfl) ?_ | refine gi_sip (Nat.le_of_ble_eq_true rfl) ?_ | refine gi_ldc ?_ | refine gi_add ?_ | refine gi_inc rfl ?_ | refine gi_sub (by omega) ?_ | refine gi_mul ?_ | refine go_nx rfl ?_)
    refine go_rt rfl ?_
    exact this
  | some b =>
    obtain ⟨n, B'⟩ := b
    obtain ⟨eB, -, fa, hpl, hfd⟩ := hI.2.2.2.2.2.1 _ hF
    have eB : B' = B := eB
    subst eB
    subst hpl
    have hrc : mm_rcv E h 2 (some (.ref a)) = true := by
      obtain ⟨nm, seen, kept, q1, -⟩ := hs
      exact o_rcv q1 rfl (by decide)
    repeat (first | refine gc_n3 rfl ?_ | refine gc_n6 rfl ?_ | refine gc_n7 rfl ?_ | refine gc_n8 rfl ?_ | refine gc_n9 rfl ?_ | refine gi_con ?_ | refine gi_bip (Nat.le_of_ble_eq_true rfl) ?_ | refine gi_sip (Nat.le_of_ble_eq_true rfl) ?_ | refine gi_ldc ?_ | refine gi_add ?_ | refine gi_inc rfl ?_ | refine gi_sub (by omega) ?_ | refine gi_mul ?_ | refine go_nx rfl ?_)
    refine gn_nR ?_
    repeat (first | refine gc_n3 rfl ?_ | refine gc_n6 rfl ?_ | refine gc_n7 rfl ?_ | refine gc_n8 rfl ?_ | refine gc_n9 rfl ?_ | refine gi_con ?_ | refine gi_bip (Nat.le_of_ble_eq_true rfl) ?_ | refine gi_sip (Nat.le_of_ble_eq_true rfl) ?_ | refine gi_ldc ?_ | refine gi_add ?_ | refine gi_inc rfl ?_ | refine gi_sub (by omega) ?_ | refine gi_mul ?_ | refine go_nx rfl ?_)
    refine gf_get _ (cIx_o hI) (by decide) rfl ?_
    refine gn_nnR ?_
    repeat (first | refine gc_n3 rfl ?_ | refine gc_n6 rfl ?_ | refine gc_n7 rfl ?_ | refine gc_n8 rfl ?_ | refine gc_n9 rfl ?_ | refine gi_con ?_ | refine gi_bip (Nat.le_of_ble_eq_true rfl) ?_ | refine gi_sip (Nat.le_of_ble_eq_true rfl) ?_ | refine gi_ldc ?_ | refine gi_add ?_ | refine gi_inc rfl ?_ | refine gi_sub (by omega) ?_ | refine gi_mul ?_ | refine go_nx rfl ?_)
    refine gf_get _ (cIx_o hI) (by decide) rfl ?_
    refine go_step ?_
    refine g_callV (by decide) (by decide) (Nat.le_of_ble_eq_true rfl) (Nat.le_of_ble_eq_true rfl) hrc (by omega) (Nat.le_of_ble_eq_true rfl) rfl ?_
    refine sp_cbounds (by omega) hI hF hk hww e2 hg rfl (fun v h' hv hI' s1 s2 s3 => ?_)
    have hq := hq h' ⟨hI', s1, s2, s3⟩
    have ae : a_end F X (nI kk) (nI ww) k high what = if what < 0 ∨ 3 < what then -2 else match q_find B' p with
        | some l => if k < 0 ∨ nI l.length ≤ k then -2 else q_side (if high = true then (l.getD (if p.2.2 = true then l.length - 1 - k.toNatClampNeg else k.toNatClampNeg) q_r0).2 else (l.getD (if p.2.2 = true then l.length - 1 - k.toNatClampNeg else k.toNatClampNeg) q_r0).1) what.toNatClampNeg
        | none => -2 := by
      unfold a_end
      rw [e, hF]
      cases hqf : q_find B' p with
      | none => simp only [hqf]
      | some l => simp only [hqf]
    rw [ae] at hq
    clear ae
    rcases hv with ⟨q1, q2⟩ | ⟨a', cap, l, R, q1, q2, q3, q4⟩
    · subst q2
      rw [q1] at hq
      have hq : Q (some (.int (-2))) h' := by
        split at hq
        · exact hq
        · exact hq
      repeat (first | refine gc_n3 rfl ?_ | refine gc_n6 rfl ?_ | refine gc_n7 rfl ?_ | refine gc_n8 rfl ?_ | refine gc_n9 rfl ?_ | refine gi_con ?_ | refine gi_bip (Nat.le_of_ble_eq_true rfl) ?_ | refine gi_sip (Nat.le_of_ble_eq_true rfl) ?_ | refine gi_ldc ?_ | refine gi_add ?_ | refine gi_inc rfl ?_ | refine gi_sub (by omega) ?_ | refine gi_mul ?_ | refine go_nx rfl ?_)
      refine gn_nN ?_
      repeat (first | refine gc_n3 rfl ?_ | refine gc_n6 rfl ?_ | refine gc_n7 rfl ?_ | refine gc_n8 rfl ?_ | refine gc_n9 rfl ?_ | refine gi_con ?_ | refine gi_bip (Nat.le_of_ble_eq_true rfl) ?_ | refine gi_sip (Nat.le_of_ble_eq_true rfl) ?_ | refine gi_ldc ?_ | refine gi_add ?_ | refine gi_inc rfl ?_ | refine gi_sub (by omega) ?_ | refine gi_mul ?_ | refine go_nx rfl ?_)
      refine go_rt rfl ?_
      exact hq
    subst q1
    rw [q2] at hq
    have hq : Q (some (.int (if what < 0 ∨ 3 < what then -2 else if k < 0 ∨ nI R.length ≤ k then -2 else q_side (if high = true then (R.getD (if p.2.2 = true then R.length - 1 - k.toNatClampNeg else k.toNatClampNeg) q_r0).2 else (R.getD (if p.2.2 = true then R.length - 1 - k.toNatClampNeg else k.toNatClampNeg) q_r0).1) what.toNatClampNeg))) h' := hq
    have three : (k < 0 ∨ nI R.length ≤ k) → ∀ x8 x9 : Value, mm_Go E d 96 (mm_blk 96 3) [.ref o, .int (nI kk), .int (nI ww), .int k, .int (q_t high), .int what, .ref a, .ref a', x8, x9] [] h' Q := by
      intro q x8 x9
      rw [if_pos q] at hq
      have hq : Q (some (.int (-2))) h' := by
        split at hq
        · exact hq
        · exact hq
      repeat (first | refine gc_n3 rfl ?_ | refine gc_n6 rfl ?_ | refine gc_n7 rfl ?_ | refine gc_n8 rfl ?_ | refine gc_n9 rfl ?_ | refine gi_con ?_ | refine gi_bip (Nat.le_of_ble_eq_true rfl) ?_ | refine gi_sip (Nat.le_of_ble_eq_true rfl) ?_ | refine gi_ldc ?_ | refine gi_add ?_ | refine gi_inc rfl ?_ | refine gi_sub (by omega) ?_ | refine gi_mul ?_ | refine go_nx rfl ?_)
      refine go_rt rfl ?_
      exact hq
    obtain ⟨eB, -, fa', hpl', hfd⟩ := hI'.2.2.2.2.2.1 _ hF
    cases hpl'
    obtain ⟨hrow, hbx, hflt, hO, hx, -⟩ := hfd
    have hrow : q_row B' n := hrow
    obtain ⟨r1, r2, r3⟩ := find_ok hbx hrow hflt hO q2
    have hlen := q4.1
    repeat (first | refine gc_n3 rfl ?_ | refine gc_n6 rfl ?_ | refine gc_n7 rfl ?_ | refine gc_n8 rfl ?_ | refine gc_n9 rfl ?_ | refine gi_con ?_ | refine gi_bip (Nat.le_of_ble_eq_true rfl) ?_ | refine gi_sip (Nat.le_of_ble_eq_true rfl) ?_ | refine gi_ldc ?_ | refine gi_add ?_ | refine gi_inc rfl ?_ | refine gi_sub (by omega) ?_ | refine gi_mul ?_ | refine go_nx rfl ?_)
    refine gn_nR ?_
    repeat (first | refine gc_n3 rfl ?_ | refine gc_n6 rfl ?_ | refine gc_n7 rfl ?_ | refine gc_n8 rfl ?_ | refine gc_n9 rfl ?_ | refine gi_con ?_ | refine gi_bip (Nat.le_of_ble_eq_true rfl) ?_ | refine gi_sip (Nat.le_of_ble_eq_true rfl) ?_ | refine gi_ldc ?_ | refine gi_add ?_ | refine gi_inc rfl ?_ | refine gi_sub (by omega) ?_ | refine gi_mul ?_ | refine go_nx rfl ?_)
    refine gx_lt (fun c1 => ?_) (fun c1 => ?_)
    · exact three (Or.inl c1) _ _
    repeat (first | refine gc_n3 rfl ?_ | refine gc_n6 rfl ?_ | refine gc_n7 rfl ?_ | refine gc_n8 rfl ?_ | refine gc_n9 rfl ?_ | refine gi_con ?_ | refine gi_bip (Nat.le_of_ble_eq_true rfl) ?_ | refine gi_sip (Nat.le_of_ble_eq_true rfl) ?_ | refine gi_ldc ?_ | refine gi_add ?_ | refine gi_inc rfl ?_ | refine gi_sub (by omega) ?_ | refine gi_mul ?_ | refine go_nx rfl ?_)
    refine go_step ?_
    refine g_callV (by decide) (by decide) (Nat.le_of_ble_eq_true rfl) (Nat.le_of_ble_eq_true rfl) (gL_rcv q3) (by omega) (Nat.le_of_ble_eq_true rfl) rfl ?_
    refine sp_lsize q3 ?_
    rw [hlen]
    refine gy_lt (fun c2 => ?_) (fun c2 => ?_)
    rotate_left
    · repeat (first | refine gc_n3 rfl ?_ | refine gc_n6 rfl ?_ | refine gc_n7 rfl ?_ | refine gc_n8 rfl ?_ | refine gc_n9 rfl ?_ | refine gi_con ?_ | refine gi_bip (Nat.le_of_ble_eq_true rfl) ?_ | refine gi_sip (Nat.le_of_ble_eq_true rfl) ?_ | refine gi_ldc ?_ | refine gi_add ?_ | refine gi_inc rfl ?_ | refine gi_sub (by omega) ?_ | refine gi_mul ?_ | refine go_nx rfl ?_)
      refine go_jp rfl ?_
      exact three (Or.inr (Int32.not_lt.mp c2)) _ _
    rw [if_neg (show ¬ (k < 0 ∨ nI R.length ≤ k) from fun q => q.elim c1 (fun z => absurd c2 (Int32.not_lt.mpr z)))] at hq
    obtain ⟨j, hj, rfl⟩ : ∃ j, j < R.length ∧ k = nI j := by
      rcases pk_ix k (n := R.length) (by omega) with q | q | q
      · exact absurd q c1
      · exact absurd c2 (Int32.not_lt.mpr q)
      · exact q
    rw [nI_clamp (by omega)] at hq
    have hpc : ∃ nm seen kept, h'.2.2 a = some (.inr (1, [.int (q_t p.2.2), .ref nm, .int (q_t p.2.1), seen, kept])) := by
      obtain ⟨a2, z1, nm, seen, kept, z2, -⟩ := (hI'.2.2.2.2.2.2.2.2.1 kk ww hk hww).2 p e2
      rw [hg] at z1
      cases z1
      exact ⟨nm, seen, kept, z2⟩
    obtain ⟨nm, seen, kept, hpc⟩ := hpc
    /- the side that is asked for -/
    have nine : ∀ (x : qE) (sd iv : Nat), eOk (fun x => x ∈ q_pre B' 16 0) x → h'.2.2 sd = some (eCell N O x) → Q (some (.int (if what < 0 ∨ 3 < what then -2 else q_side x what.toNatClampNeg))) h' → mm_Go E d 96 (mm_blk 96 8) [.ref o, .int (nI kk), .int (nI ww), .int (nI j), .int (q_t high), .int what, .ref a, .ref a', .ref iv, mm_un] [.ref sd] h' Q := by
      intro x sd iv hok hsd hq
      have hsd' : h'.2.2 sd = some (.inr (6, [.int (nI x.1), if x.2.1 = 1 then .ref (N x.2.2.2) else .null, .int (nI x.2.2.1), .int (nI (eLo O x)), .int (nI (eHi O x))])) := hsd
      repeat (first | refine gc_n3 rfl ?_ | refine gc_n6 rfl ?_ | refine gc_n7 rfl ?_ | refine gc_n8 rfl ?_ | refine gc_n9 rfl ?_ | refine gi_con ?_ | refine gi_bip (Nat.le_of_ble_eq_true rfl) ?_ | refine gi_sip (Nat.le_of_ble_eq_true rfl) ?_ | refine gi_ldc ?_ | refine gi_add ?_ | refine gi_inc rfl ?_ | refine gi_sub (by omega) ?_ | refine gi_mul ?_ | refine go_nx rfl ?_)
      refine go_jp rfl ?_
      show mm_Go E d 96 (mm_blk 96 (mm_sw 19 0 [9, 10, 13, 16] what)) _ _ _ _
      rcases pk_ix what (n := 4) (by decide) with q | q | ⟨z, hz, q⟩
      · rw [sw_neg q]
        rw [if_pos (Or.inl q)] at hq
        repeat (first | refine gc_n3 rfl ?_ | refine gc_n6 rfl ?_ | refine gc_n7 rfl ?_ | refine gc_n8 rfl ?_ | refine gc_n9 rfl ?_ | refine gi_con ?_ | refine gi_bip (Nat.le_of_ble_eq_true rfl) ?_ | refine gi_sip (Nat.le_of_ble_eq_true rfl) ?_ | refine gi_ldc ?_ | refine gi_add ?_ | refine gi_inc rfl ?_ | refine gi_sub (by omega) ?_ | refine gi_mul ?_ | refine go_nx rfl ?_)
        refine go_rt rfl ?_
        exact hq
      · rw [sw_ge _ _ _ _ q]
        rw [if_pos (Or.inr (Int32.lt_of_lt_of_le (show (3 : Int32) < 4 by decide) q))] at hq
        repeat (first | refine gc_n3 rfl ?_ | refine gc_n6 rfl ?_ | refine gc_n7 rfl ?_ | refine gc_n8 rfl ?_ | refine gc_n9 rfl ?_ | refine gi_con ?_ | refine gi_bip (Nat.le_of_ble_eq_true rfl) ?_ | refine gi_sip (Nat.le_of_ble_eq_true rfl) ?_ | refine gi_ldc ?_ | refine gi_add ?_ | refine gi_inc rfl ?_ | refine gi_sub (by omega) ?_ | refine gi_mul ?_ | refine go_nx rfl ?_)
        refine go_rt rfl ?_
        exact hq
      subst q
      rw [if_neg (by
        rcases (show z = 0 ∨ z = 1 ∨ z = 2 ∨ z = 3 by omega) with q | q | q | q <;> subst q <;> decide), nI_clamp (by omega)] at hq
      have hi1 := hok.2.2.1
      rcases (show z = 0 ∨ z = 1 ∨ z = 2 ∨ z = 3 by omega) with q | q | q | q
      · subst q
        show mm_Go E d 96 (mm_blk 96 9) _ _ _ _
        repeat (first | refine gc_n3 rfl ?_ | refine gc_n6 rfl ?_ | refine gc_n7 rfl ?_ | refine gc_n8 rfl ?_ | refine gc_n9 rfl ?_ | refine gi_con ?_ | refine gi_bip (Nat.le_of_ble_eq_true rfl) ?_ | refine gi_sip (Nat.le_of_ble_eq_true rfl) ?_ | refine gi_ldc ?_ | refine gi_add ?_ | refine gi_inc rfl ?_ | refine gi_sub (by omega) ?_ | refine gi_mul ?_ | refine go_nx rfl ?_)
        refine gf_get _ hsd' (by decide) rfl ?_
        refine go_rt rfl ?_
        exact hq
      · subst q
        show mm_Go E d 96 (mm_blk 96 10) _ _ _ _
        by_cases hw : x.2.1 = 1
        · rw [show q_side x 1 = 1 from if_pos hw] at hq
          rw [eC_1 hw] at hsd
          repeat (first | refine gc_n3 rfl ?_ | refine gc_n6 rfl ?_ | refine gc_n7 rfl ?_ | refine gc_n8 rfl ?_ | refine gc_n9 rfl ?_ | refine gi_con ?_ | refine gi_bip (Nat.le_of_ble_eq_true rfl) ?_ | refine gi_sip (Nat.le_of_ble_eq_true rfl) ?_ | refine gi_ldc ?_ | refine gi_add ?_ | refine gi_inc rfl ?_ | refine gi_sub (by omega) ?_ | refine gi_mul ?_ | refine go_nx rfl ?_)
          refine gf_get _ hsd (by decide) rfl ?_
          refine gn_nnR ?_
          repeat (first | refine gc_n3 rfl ?_ | refine gc_n6 rfl ?_ | refine gc_n7 rfl ?_ | refine gc_n8 rfl ?_ | refine gc_n9 rfl ?_ | refine gi_con ?_ | refine gi_bip (Nat.le_of_ble_eq_true rfl) ?_ | refine gi_sip (Nat.le_of_ble_eq_true rfl) ?_ | refine gi_ldc ?_ | refine gi_add ?_ | refine gi_inc rfl ?_ | refine gi_sub (by omega) ?_ | refine gi_mul ?_ | refine go_nx rfl ?_)
          refine go_jp rfl ?_
          refine go_rt rfl ?_
          exact hq
        · rw [show q_side x 1 = 0 from if_neg hw] at hq
          rw [eC_0 hw] at hsd
          repeat (first | refine gc_n3 rfl ?_ | refine gc_n6 rfl ?_ | refine gc_n7 rfl ?_ | refine gc_n8 rfl ?_ | refine gc_n9 rfl ?_ | refine gi_con ?_ | refine gi_bip (Nat.le_of_ble_eq_true rfl) ?_ | refine gi_sip (Nat.le_of_ble_eq_true rfl) ?_ | refine gi_ldc ?_ | refine gi_add ?_ | refine gi_inc rfl ?_ | refine gi_sub (by omega) ?_ | refine gi_mul ?_ | refine go_nx rfl ?_)
          refine gf_get _ hsd (by decide) rfl ?_
          refine gn_nnN ?_
          repeat (first | refine gc_n3 rfl ?_ | refine gc_n6 rfl ?_ | refine gc_n7 rfl ?_ | refine gc_n8 rfl ?_ | refine gc_n9 rfl ?_ | refine gi_con ?_ | refine gi_bip (Nat.le_of_ble_eq_true rfl) ?_ | refine gi_sip (Nat.le_of_ble_eq_true rfl) ?_ | refine gi_ldc ?_ | refine gi_add ?_ | refine gi_inc rfl ?_ | refine gi_sub (by omega) ?_ | refine gi_mul ?_ | refine go_nx rfl ?_)
          refine go_jp rfl ?_
          refine go_rt rfl ?_
          exact hq
      · subst q
        show mm_Go E d 96 (mm_blk 96 13) _ _ _ _
        have hq : Q (some (.int (nI x.2.2.1))) h' := hq
        repeat (first | refine gc_n3 rfl ?_ | refine gc_n6 rfl ?_ | refine gc_n7 rfl ?_ | refine gc_n8 rfl ?_ | refine gc_n9 rfl ?_ | refine gi_con ?_ | refine gi_bip (Nat.le_of_ble_eq_true rfl) ?_ | refine gi_sip (Nat.le_of_ble_eq_true rfl) ?_ | refine gi_ldc ?_ | refine gi_add ?_ | refine gi_inc rfl ?_ | refine gi_sub (by omega) ?_ | refine gi_mul ?_ | refine go_nx rfl ?_)
        refine gf_get _ hsd' (by decide) rfl ?_
        first | refine gz_eq (by omega) (fun c5 => ?_) (fun c5 => ?_) | refine gz_ne (by omega) (fun c5 => ?_) (fun c5 => ?_) | refine gz_le (by omega) (fun c5 => ?_) (fun c5 => ?_) | refine gz_gt (by omega) (fun c5 => ?_) (fun c5 => ?_) | refine gz_lt (by omega) (fun c5 => ?_) (fun c5 => ?_) | refine gz_ge (by omega) (fun c5 => ?_) (fun c5 => ?_)
        · rw [c5] at hq
          repeat (first | refine gc_n3 rfl ?_ | refine gc_n6 rfl ?_ | refine gc_n7 rfl ?_ | refine gc_n8 rfl ?_ | refine gc_n9 rfl ?_ | refine gi_con ?_ | refine gi_bip (Nat.le_of_ble_eq_true rfl) ?_ | refine gi_sip (Nat.le_of_ble_eq_true rfl) ?_ | refine gi_ldc ?_ | refine gi_add ?_ | refine gi_inc rfl ?_ | refine gi_sub (by omega) ?_ | refine gi_mul ?_ | refine go_nx rfl ?_)
          refine go_jp rfl ?_
          refine go_rt rfl ?_
          exact hq
        · rw [show x.2.2.1 = 1 by omega] at hq
          repeat (first | refine gc_n3 rfl ?_ | refine gc_n6 rfl ?_ | refine gc_n7 rfl ?_ | refine gc_n8 rfl ?_ | refine gc_n9 rfl ?_ | refine gi_con ?_ | refine gi_bip (Nat.le_of_ble_eq_true rfl) ?_ | refine gi_sip (Nat.le_of_ble_eq_true rfl) ?_ | refine gi_ldc ?_ | refine gi_add ?_ | refine gi_inc rfl ?_ | refine gi_sub (by omega) ?_ | refine gi_mul ?_ | refine go_nx rfl ?_)
          refine go_jp rfl ?_
          refine go_rt rfl ?_
          exact hq
      · subst q
        show mm_Go E d 96 (mm_blk 96 16) _ _ _ _
        by_cases hw : x.2.1 = 1
        · rw [show q_side x 3 = nI x.2.2.2 from if_pos hw] at hq
          rw [eC_1 hw] at hsd
          obtain ⟨lev, lim, hnd, -⟩ := fCx_nd hbx hx (hok.2.2.2 hw)
          repeat (first | refine gc_n3 rfl ?_ | refine gc_n6 rfl ?_ | refine gc_n7 rfl ?_ | refine gc_n8 rfl ?_ | refine gc_n9 rfl ?_ | refine gi_con ?_ | refine gi_bip (Nat.le_of_ble_eq_true rfl) ?_ | refine gi_sip (Nat.le_of_ble_eq_true rfl) ?_ | refine gi_ldc ?_ | refine gi_add ?_ | refine gi_inc rfl ?_ | refine gi_sub (by omega) ?_ | refine gi_mul ?_ | refine go_nx rfl ?_)
          refine gf_get _ hsd (by decide) rfl ?_
          refine gn_nnR ?_
          repeat (first | refine gc_n3 rfl ?_ | refine gc_n6 rfl ?_ | refine gc_n7 rfl ?_ | refine gc_n8 rfl ?_ | refine gc_n9 rfl ?_ | refine gi_con ?_ | refine gi_bip (Nat.le_of_ble_eq_true rfl) ?_ | refine gi_sip (Nat.le_of_ble_eq_true rfl) ?_ | refine gi_ldc ?_ | refine gi_add ?_ | refine gi_inc rfl ?_ | refine gi_sub (by omega) ?_ | refine gi_mul ?_ | refine go_nx rfl ?_)
          refine gf_get _ hsd (by decide) rfl ?_
          refine gf_get _ (nd_c hnd) (by decide) rfl ?_
          refine go_jp rfl ?_
          refine go_rt rfl ?_
          exact hq
        · rw [show q_side x 3 = -1 from if_neg hw] at hq
          rw [eC_0 hw] at hsd
          repeat (first | refine gc_n3 rfl ?_ | refine gc_n6 rfl ?_ | refine gc_n7 rfl ?_ | refine gc_n8 rfl ?_ | refine gc_n9 rfl ?_ | refine gi_con ?_ | refine gi_bip (Nat.le_of_ble_eq_true rfl) ?_ | refine gi_sip (Nat.le_of_ble_eq_true rfl) ?_ | refine gi_ldc ?_ | refine gi_add ?_ | refine gi_inc rfl ?_ | refine gi_sub (by omega) ?_ | refine gi_mul ?_ | refine go_nx rfl ?_)
          refine gf_get _ hsd (by decide) rfl ?_
          refine gn_nnN ?_
          repeat (first | refine gc_n3 rfl ?_ | refine gc_n6 rfl ?_ | refine gc_n7 rfl ?_ | refine gc_n8 rfl ?_ | refine gc_n9 rfl ?_ | refine gi_con ?_ | refine gi_bip (Nat.le_of_ble_eq_true rfl) ?_ | refine gi_sip (Nat.le_of_ble_eq_true rfl) ?_ | refine gi_ldc ?_ | refine gi_add ?_ | refine gi_inc rfl ?_ | refine gi_sub (by omega) ?_ | refine gi_mul ?_ | refine go_nx rfl ?_)
          refine go_jp rfl ?_
          refine go_rt rfl ?_
          exact hq
    have six : ∀ ix, ix < R.length → ix = (if p.2.2 = true then R.length - 1 - j else j) → mm_Go E d 96 (mm_blk 96 6) [.ref o, .int (nI kk), .int (nI ww), .int (nI j), .int (q_t high), .int what, .ref a, .ref a', mm_un, mm_un] [.int (nI ix), .ref a'] h' Q := by
      intro ix hix eix
      rw [← eix] at hq
      obtain ⟨lo, hh, t1, t2, t3⟩ := q4.2 ix hix
      have ok := r1.1 _ (getD_mem (x := q_r0) hix)
      refine go_step ?_
      refine g_callV (by decide) (by decide) (Nat.le_of_ble_eq_true rfl) (Nat.le_of_ble_eq_true rfl) (gL_rcv q3) (by omega) (Nat.le_of_ble_eq_true rfl) rfl ?_
      refine sp_lget (by omega) q3 (by omega) ?_
      refine gc_cast0 t1 rfl rfl ?_
      repeat (first | refine gc_n3 rfl ?_ | refine gc_n6 rfl ?_ | refine gc_n7 rfl ?_ | refine gc_n8 rfl ?_ | refine gc_n9 rfl ?_ | refine gi_con ?_ | refine gi_bip (Nat.le_of_ble_eq_true rfl) ?_ | refine gi_sip (Nat.le_of_ble_eq_true rfl) ?_ | refine gi_ldc ?_ | refine gi_add ?_ | refine gi_inc rfl ?_ | refine gi_sub (by omega) ?_ | refine gi_mul ?_ | refine go_nx rfl ?_)
      refine gt_eq (fun c3 => ?_) (fun c3 => ?_)
      · rw [if_neg (show ¬ high = true by rw [c3]; exact fun q => Bool.noConfusion q)] at hq
        repeat (first | refine gc_n3 rfl ?_ | refine gc_n6 rfl ?_ | refine gc_n7 rfl ?_ | refine gc_n8 rfl ?_ | refine gc_n9 rfl ?_ | refine gi_con ?_ | refine gi_bip (Nat.le_of_ble_eq_true rfl) ?_ | refine gi_sip (Nat.le_of_ble_eq_true rfl) ?_ | refine gi_ldc ?_ | refine gi_add ?_ | refine gi_inc rfl ?_ | refine gi_sub (by omega) ?_ | refine gi_mul ?_ | refine go_nx rfl ?_)
        refine gf_get _ t1 (by decide) rfl ?_
        refine go_jp rfl ?_
        exact nine _ lo _ ok.1 t2 hq
      · rw [if_pos c3] at hq
        repeat (first | refine gc_n3 rfl ?_ | refine gc_n6 rfl ?_ | refine gc_n7 rfl ?_ | refine gc_n8 rfl ?_ | refine gc_n9 rfl ?_ | refine gi_con ?_ | refine gi_bip (Nat.le_of_ble_eq_true rfl) ?_ | refine gi_sip (Nat.le_of_ble_eq_true rfl) ?_ | refine gi_ldc ?_ | refine gi_add ?_ | refine gi_inc rfl ?_ | refine gi_sub (by omega) ?_ | refine gi_mul ?_ | refine go_nx rfl ?_)
        refine gf_get _ t1 (by decide) rfl ?_
        refine go_jp rfl ?_
        exact nine _ hh _ ok.2.1 t3 hq
    repeat (first | refine gc_n3 rfl ?_ | refine gc_n6 rfl ?_ | refine gc_n7 rfl ?_ | refine gc_n8 rfl ?_ | refine gc_n9 rfl ?_ | refine gi_con ?_ | refine gi_bip (Nat.le_of_ble_eq_true rfl) ?_ | refine gi_sip (Nat.le_of_ble_eq_true rfl) ?_ | refine gi_ldc ?_ | refine gi_add ?_ | refine gi_inc rfl ?_ | refine gi_sub (by omega) ?_ | refine gi_mul ?_ | refine go_nx rfl ?_)
    refine gf_get _ hpc (by decide) rfl ?_
    refine gt_eq (fun c3 => ?_) (fun c3 => ?_)
    · repeat (first | refine gc_n3 rfl ?_ | refine gc_n6 rfl ?_ | refine gc_n7 rfl ?_ | refine gc_n8 rfl ?_ | refine gc_n9 rfl ?_ | refine gi_con ?_ | refine gi_bip (Nat.le_of_ble_eq_true rfl) ?_ | refine gi_sip (Nat.le_of_ble_eq_true rfl) ?_ | refine gi_ldc ?_ | refine gi_add ?_ | refine gi_inc rfl ?_ | refine gi_sub (by omega) ?_ | refine gi_mul ?_ | refine go_nx rfl ?_)
      refine go_jp rfl ?_
      exact six j hj (by rw [c3, if_neg (fun q => Bool.noConfusion q)])
    · repeat (first | refine gc_n3 rfl ?_ | refine gc_n6 rfl ?_ | refine gc_n7 rfl ?_ | refine gc_n8 rfl ?_ | refine gc_n9 rfl ?_ | refine gi_con ?_ | refine gi_bip (Nat.le_of_ble_eq_true rfl) ?_ | refine gi_sip (Nat.le_of_ble_eq_true rfl) ?_ | refine gi_ldc ?_ | refine gi_add ?_ | refine gi_inc rfl ?_ | refine gi_sub (by omega) ?_ | refine gi_mul ?_ | refine go_nx rfl ?_)
      refine go_step ?_
      refine g_callV (by decide) (by decide) (Nat.le_of_ble_eq_true rfl) (Nat.le_of_ble_eq_true rfl) (gL_rcv q3) (by omega) (Nat.le_of_ble_eq_true rfl) rfl ?_
      refine sp_lsize q3 ?_
      rw [hlen]
      repeat (first | refine gc_n3 rfl ?_ | refine gc_n6 rfl ?_ | refine gc_n7 rfl ?_ | refine gc_n8 rfl ?_ | refine gc_n9 rfl ?_ | refine gi_con ?_ | refine gi_bip (Nat.le_of_ble_eq_true rfl) ?_ | refine gi_sip (Nat.le_of_ble_eq_true rfl) ?_ | refine gi_ldc ?_ | refine gi_add ?_ | refine gi_inc rfl ?_ | refine gi_sub (by omega) ?_ | refine gi_mul ?_ | refine go_nx rfl ?_)
      refine go_jp rfl ?_
      exact six (R.length - 1 - j) (by omega) (by rw [if_pos c3])
theorem sp_cinside {i w : Int32} (hd : 43 ≤ d) (hI : cIx E h own o t F V X ta pa pl hl f g N O row B) (hq : ∀ h', cSm E h own o t F V X ta pa pl hl f g N O row B h' → Q (some (.int (a_inside F V X i w))) h') : mm_Go E d 97 (mm_blk 97 0) [.ref o, .int i, .int w, mm_un, mm_un] [] h Q := by
  have hnone : (q_pth X i w = none ∨ F = none ∨ V = none) → a_inside F V X i w = -1 := by
    intro q
    unfold a_inside
    rcases q with q | q | q
    · rw [q]
    · rw [q]
      cases q_pth X i w <;> rfl
    · rw [q]
      cases q_pth X i w <;> cases F <;> rfl
  have one : ∀ x3 : Value, (x3 = .null ∨ ∃ a, x3 = .ref a) → (q_pth X i w = none ∨ F = none ∨ V = none) → mm_Go E d 97 (mm_blk 97 1) [.ref o, .int i, .int w, x3, mm_un] [] h Q := by
    intro x3 hx e
    have := hq h (cSm_r hI)
    rw [hnone e] at this
    repeat (first | refine gc_n3 rfl ?_ | refine gc_n6 rfl ?_ | refine gc_n7 rfl ?_ | refine gc_n8 rfl ?_ | refine gc_n9 rfl ?_ | refine gi_con ?_ | refine gi_bip (Nat.le_of_ble_eq_true rfl) ?_ | refine gi_sip (Nat.le_of_ble_eq_true rfl) ?_ | refine gi_ldc ?_ | refine gi_add ?_ | refine gi_inc rfl ?_ | refine gi_sub (by omega) ?_ | refine gi_mul ?_ | refine go_nx rfl ?_)
    refine go_rt rfl ?_
    exact this
  repeat (first | refine gc_n3 rfl ?_ | refine gc_n6 rfl ?_ | refine gc_n7 rfl ?_ | refine gc_n8 rfl ?_ | refine gc_n9 rfl ?_ | refine gi_con ?_ | refine gi_bip (Nat.le_of_ble_eq_true rfl) ?_ | refine gi_sip (Nat.le_of_ble_eq_true rfl) ?_ | refine gi_ldc ?_ | refine gi_add ?_ | refine gi_inc rfl ?_ | refine gi_sub (by omega) ?_ | refine gi_mul ?_ | refine go_nx rfl ?_)
  refine go_step ?_
  refine g_callV (by decide) (by decide) (Nat.le_of_ble_eq_true rfl) (Nat.le_of_ble_eq_true rfl) (cIx_rcv hI) (by omega) (Nat.le_of_ble_eq_true rfl) rfl ?_
  refine sp_pathAt hI (fun e => ?_) (fun p a kk ww e hk hww ei ew hg hs => ?_)
  · repeat (first | refine gc_n3 rfl ?_ | refine gc_n6 rfl ?_ | refine gc_n7 rfl ?_ | refine gc_n8 rfl ?_ | refine gc_n9 rfl ?_ | refine gi_con ?_ | refine gi_bip (Nat.le_of_ble_eq_true rfl) ?_ | refine gi_sip (Nat.le_of_ble_eq_true rfl) ?_ | refine gi_ldc ?_ | refine gi_add ?_ | refine gi_inc rfl ?_ | refine gi_sub (by omega) ?_ | refine gi_mul ?_ | refine go_nx rfl ?_)
    refine gn_nN ?_
    exact one _ (Or.inl rfl) (Or.inl e)
  subst ei ew
  have e2 : q_pt2 X kk ww = some p := by rw [← q_pth_2 hk hww]; exact e
  cases hF : F with
  | none =>
    have hpl := hI.2.2.2.2.1 hF
    subst hpl
    repeat (first | refine gc_n3 rfl ?_ | refine gc_n6 rfl ?_ | refine gc_n7 rfl ?_ | refine gc_n8 rfl ?_ | refine gc_n9 rfl ?_ | refine gi_con ?_ | refine gi_bip (Nat.le_of_ble_eq_true rfl) ?_ | refine gi_sip (Nat.le_of_ble_eq_true rfl) ?_ | refine gi_ldc ?_ | refine gi_add ?_ | refine gi_inc rfl ?_ | refine gi_sub (by omega) ?_ | refine gi_mul ?_ | refine go_nx rfl ?_)
    refine gn_nR ?_
    repeat (first | refine gc_n3 rfl ?_ | refine gc_n6 rfl ?_ | refine gc_n7 rfl ?_ | refine gc_n8 rfl ?_ | refine gc_n9 rfl ?_ | refine gi_con ?_ | refine gi_bip (Nat.le_of_ble_eq_true rfl) ?_ | refine gi_sip (Nat.le_of_ble_eq_true rfl) ?_ | refine gi_ldc ?_ | refine gi_add ?_ | refine gi_inc rfl ?_ | refine gi_sub (by omega) ?_ | refine gi_mul ?_ | refine go_nx rfl ?_)
    refine gf_get _ (cIx_o hI) (by decide) rfl ?_
    refine gn_nN ?_
    exact one _ (Or.inr ⟨_, rfl⟩) (Or.inr (Or.inl hF))
  | some b =>
    obtain ⟨n, B'⟩ := b
    obtain ⟨eB, -, fa, hpl, hfd⟩ := hI.2.2.2.2.2.1 _ hF
    have eB : B' = B := eB
    subst eB
    subst hpl
    cases hV : V with
    | none =>
      have hhl := hI.2.2.2.2.2.2.1 hV
      subst hhl
      repeat (first | refine gc_n3 rfl ?_ | refine gc_n6 rfl ?_ | refine gc_n7 rfl ?_ | refine gc_n8 rfl ?_ | refine gc_n9 rfl ?_ | refine gi_con ?_ | refine gi_bip (Nat.le_of_ble_eq_true rfl) ?_ | refine gi_sip (Nat.le_of_ble_eq_true rfl) ?_ | refine gi_ldc ?_ | refine gi_add ?_ | refine gi_inc rfl ?_ | refine gi_sub (by omega) ?_ | refine gi_mul ?_ | refine go_nx rfl ?_)
      refine gn_nR ?_
      repeat (first | refine gc_n3 rfl ?_ | refine gc_n6 rfl ?_ | refine gc_n7 rfl ?_ | refine gc_n8 rfl ?_ | refine gc_n9 rfl ?_ | refine gi_con ?_ | refine gi_bip (Nat.le_of_ble_eq_true rfl) ?_ | refine gi_sip (Nat.le_of_ble_eq_true rfl) ?_ | refine gi_ldc ?_ | refine gi_add ?_ | refine gi_inc rfl ?_ | refine gi_sub (by omega) ?_ | refine gi_mul ?_ | refine go_nx rfl ?_)
      refine gf_get _ (cIx_o hI) (by decide) rfl ?_
      refine gn_nR ?_
      repeat (first | refine gc_n3 rfl ?_ | refine gc_n6 rfl ?_ | refine gc_n7 rfl ?_ | refine gc_n8 rfl ?_ | refine gc_n9 rfl ?_ | refine gi_con ?_ | refine gi_bip (Nat.le_of_ble_eq_true rfl) ?_ | refine gi_sip (Nat.le_of_ble_eq_true rfl) ?_ | refine gi_ldc ?_ | refine gi_add ?_ | refine gi_inc rfl ?_ | refine gi_sub (by omega) ?_ | refine gi_mul ?_ | refine go_nx rfl ?_)
      refine gf_get _ (cIx_o hI) (by decide) rfl ?_
      refine gn_nnN ?_
      repeat (first | refine gc_n3 rfl ?_ | refine gc_n6 rfl ?_ | refine gc_n7 rfl ?_ | refine gc_n8 rfl ?_ | refine gc_n9 rfl ?_ | refine gi_con ?_ | refine gi_bip (Nat.le_of_ble_eq_true rfl) ?_ | refine gi_sip (Nat.le_of_ble_eq_true rfl) ?_ | refine gi_ldc ?_ | refine gi_add ?_ | refine gi_inc rfl ?_ | refine gi_sub (by omega) ?_ | refine gi_mul ?_ | refine go_nx rfl ?_)
      refine go_jp rfl ?_
      exact one _ (Or.inr ⟨_, rfl⟩) (Or.inr (Or.inr hV))
    | some v =>
      obtain ⟨na, row2, hhl, hr2t, -⟩ := hI.2.2.2.2.2.2.2.1 _ hV
      subst hhl
      have hrc : mm_rcv E h 2 (some (.ref a)) = true := by
        obtain ⟨nm, seen, kept, q1, -⟩ := hs
        exact o_rcv q1 rfl (by decide)
      repeat (first | refine gc_n3 rfl ?_ | refine gc_n6 rfl ?_ | refine gc_n7 rfl ?_ | refine gc_n8 rfl ?_ | refine gc_n9 rfl ?_ | refine gi_con ?_ | refine gi_bip (Nat.le_of_ble_eq_true rfl) ?_ | refine gi_sip (Nat.le_of_ble_eq_true rfl) ?_ | refine gi_ldc ?_ | refine gi_add ?_ | refine gi_inc rfl ?_ | refine gi_sub (by omega) ?_ | refine gi_mul ?_ | refine go_nx rfl ?_)
      refine gn_nR ?_
      repeat (first | refine gc_n3 rfl ?_ | refine gc_n6 rfl ?_ | refine gc_n7 rfl ?_ | refine gc_n8 rfl ?_ | refine gc_n9 rfl ?_ | refine gi_con ?_ | refine gi_bip (Nat.le_of_ble_eq_true rfl) ?_ | refine gi_sip (Nat.le_of_ble_eq_true rfl) ?_ | refine gi_ldc ?_ | refine gi_add ?_ | refine gi_inc rfl ?_ | refine gi_sub (by omega) ?_ | refine gi_mul ?_ | refine go_nx rfl ?_)
      refine gf_get _ (cIx_o hI) (by decide) rfl ?_
      refine gn_nR ?_
      repeat (first | refine gc_n3 rfl ?_ | refine gc_n6 rfl ?_ | refine gc_n7 rfl ?_ | refine gc_n8 rfl ?_ | refine gc_n9 rfl ?_ | refine gi_con ?_ | refine gi_bip (Nat.le_of_ble_eq_true rfl) ?_ | refine gi_sip (Nat.le_of_ble_eq_true rfl) ?_ | refine gi_ldc ?_ | refine gi_add ?_ | refine gi_inc rfl ?_ | refine gi_sub (by omega) ?_ | refine gi_mul ?_ | refine go_nx rfl ?_)
      refine gf_get _ (cIx_o hI) (by decide) rfl ?_
      refine gn_nnR ?_
      repeat (first | refine gc_n3 rfl ?_ | refine gc_n6 rfl ?_ | refine gc_n7 rfl ?_ | refine gc_n8 rfl ?_ | refine gc_n9 rfl ?_ | refine gi_con ?_ | refine gi_bip (Nat.le_of_ble_eq_true rfl) ?_ | refine gi_sip (Nat.le_of_ble_eq_true rfl) ?_ | refine gi_ldc ?_ | refine gi_add ?_ | refine gi_inc rfl ?_ | refine gi_sub (by omega) ?_ | refine gi_mul ?_ | refine go_nx rfl ?_)
      refine gf_get _ (cIx_o hI) (by decide) rfl ?_
      refine go_step ?_
      refine g_callV (by decide) (by decide) (Nat.le_of_ble_eq_true rfl) (Nat.le_of_ble_eq_true rfl) hrc (by omega) (Nat.le_of_ble_eq_true rfl) rfl ?_
      refine sp_cbounds (by omega) hI hF hk hww e2 hg rfl (fun v1 h' hv hI' s1 s2 s3 => ?_)
      have hq := hq h' ⟨hI', s1, s2, s3⟩
      have ae : a_inside F V X (nI kk) (nI ww) = match q_find B' p with
          | some l => q_t (l.any (q_hold B' v.2))
          | none => 1 := by
        unfold a_inside
        rw [e, hF, hV]
        cases hqf : q_find B' p with
        | none => simp only [hqf]
        | some l => simp only [hqf]
      rw [ae] at hq
      clear ae
      rcases hv with ⟨q1, q2⟩ | ⟨a', cap, l, R, q1, q2, q3, q4⟩
      · subst q2
        rw [q1] at hq
        repeat (first | refine gc_n3 rfl ?_ | refine gc_n6 rfl ?_ | refine gc_n7 rfl ?_ | refine gc_n8 rfl ?_ | refine gc_n9 rfl ?_ | refine gi_con ?_ | refine gi_bip (Nat.le_of_ble_eq_true rfl) ?_ | refine gi_sip (Nat.le_of_ble_eq_true rfl) ?_ | refine gi_ldc ?_ | refine gi_add ?_ | refine gi_inc rfl ?_ | refine gi_sub (by omega) ?_ | refine gi_mul ?_ | refine go_nx rfl ?_)
        refine gn_nN ?_
        repeat (first | refine gc_n3 rfl ?_ | refine gc_n6 rfl ?_ | refine gc_n7 rfl ?_ | refine gc_n8 rfl ?_ | refine gc_n9 rfl ?_ | refine gi_con ?_ | refine gi_bip (Nat.le_of_ble_eq_true rfl) ?_ | refine gi_sip (Nat.le_of_ble_eq_true rfl) ?_ | refine gi_ldc ?_ | refine gi_add ?_ | refine gi_inc rfl ?_ | refine gi_sub (by omega) ?_ | refine gi_mul ?_ | refine go_nx rfl ?_)
        refine go_jp rfl ?_
        refine go_rt rfl ?_
        exact hq
      subst q1
      rw [q2] at hq
      have hq : Q (some (.int (q_t (R.any (q_hold B' v.2))))) h' := hq
      obtain ⟨eB, -, fa', hpl', hfd⟩ := hI'.2.2.2.2.2.1 _ hF
      cases hpl'
      obtain ⟨hrow, hbx, hflt, hO, hx, -⟩ := hfd
      have hrow : q_row B' n := hrow
      obtain ⟨r1, r2, r3⟩ := find_ok hbx hrow hflt hO q2
      obtain ⟨na', row2', hhl', hr2t', N2, O2, v1, v2, v3, v4, v5, v6, v7⟩ := hI'.2.2.2.2.2.2.2.1 _ hV
      cases hhl'
      have h4 : 4 ∈ q_pre v.2 16 0 := by
        rw [q_pre_s]
        refine List.mem_flatMap.mpr ⟨4, ?_, List.mem_cons_self⟩
        unfold q_box_els
        rw [q_els_s, if_pos (show 0 + 4 < q_last v.2 0 by unfold q_last; omega)]
        exact List.mem_cons_self
      obtain ⟨lev, lim, w1, w2, w3⟩ := nBox_el v2 (Nat.le_refl _) v6 4 h4
      repeat (first | refine gc_n3 rfl ?_ | refine gc_n6 rfl ?_ | refine gc_n7 rfl ?_ | refine gc_n8 rfl ?_ | refine gc_n9 rfl ?_ | refine gi_con ?_ | refine gi_bip (Nat.le_of_ble_eq_true rfl) ?_ | refine gi_sip (Nat.le_of_ble_eq_true rfl) ?_ | refine gi_ldc ?_ | refine gi_add ?_ | refine gi_inc rfl ?_ | refine gi_sub (by omega) ?_ | refine gi_mul ?_ | refine go_nx rfl ?_)
      refine gn_nR ?_
      repeat (first | refine gc_n3 rfl ?_ | refine gc_n6 rfl ?_ | refine gc_n7 rfl ?_ | refine gc_n8 rfl ?_ | refine gc_n9 rfl ?_ | refine gi_con ?_ | refine gi_bip (Nat.le_of_ble_eq_true rfl) ?_ | refine gi_sip (Nat.le_of_ble_eq_true rfl) ?_ | refine gi_ldc ?_ | refine gi_add ?_ | refine gi_inc rfl ?_ | refine gi_sub (by omega) ?_ | refine gi_mul ?_ | refine go_nx rfl ?_)
      refine gf_get _ (cIx_o hI') (by decide) rfl ?_
      refine go_step ?_
      refine g_call (k := 98) rfl (by omega) (Nat.le_of_ble_eq_true rfl) rfl ?_
      refine sp_hold (by omega) hrow hbx v1 hO hx q3 q4 (fun r hr => ⟨r1.1 r hr, r3 r hr⟩) (by omega) v5 w1 w2 w3 v7 ?_
      refine gt_eq (fun c1 => ?_) (fun c1 => ?_)
      · rw [c1] at hq
        repeat (first | refine gc_n3 rfl ?_ | refine gc_n6 rfl ?_ | refine gc_n7 rfl ?_ | refine gc_n8 rfl ?_ | refine gc_n9 rfl ?_ | refine gi_con ?_ | refine gi_bip (Nat.le_of_ble_eq_true rfl) ?_ | refine gi_sip (Nat.le_of_ble_eq_true rfl) ?_ | refine gi_ldc ?_ | refine gi_add ?_ | refine gi_inc rfl ?_ | refine gi_sub (by omega) ?_ | refine gi_mul ?_ | refine go_nx rfl ?_)
        refine go_jp rfl ?_
        refine go_rt rfl ?_
        exact hq
      · rw [c1] at hq
        repeat (first | refine gc_n3 rfl ?_ | refine gc_n6 rfl ?_ | refine gc_n7 rfl ?_ | refine gc_n8 rfl ?_ | refine gc_n9 rfl ?_ | refine gi_con ?_ | refine gi_bip (Nat.le_of_ble_eq_true rfl) ?_ | refine gi_sip (Nat.le_of_ble_eq_true rfl) ?_ | refine gi_ldc ?_ | refine gi_add ?_ | refine gi_inc rfl ?_ | refine gi_sub (by omega) ?_ | refine gi_mul ?_ | refine go_nx rfl ?_)
        refine go_jp rfl ?_
        repeat (first | refine gc_n3 rfl ?_ | refine gc_n6 rfl ?_ | refine gc_n7 rfl ?_ | refine gc_n8 rfl ?_ | refine gc_n9 rfl ?_ | refine gi_con ?_ | refine gi_bip (Nat.le_of_ble_eq_true rfl) ?_ | refine gi_sip (Nat.le_of_ble_eq_true rfl) ?_ | refine gi_ldc ?_ | refine gi_add ?_ | refine gi_inc rfl ?_ | refine gi_sub (by omega) ?_ | refine gi_mul ?_ | refine go_nx rfl ?_)
        refine go_jp rfl ?_
        refine go_rt rfl ?_
        exact hq
end C
