/-! THE CLASS: filters and conditions -/
section C
variable {E : mmE} {h : mmH} {row n : Nat} {B N ord : Nat → Nat} {u : Nat → Bool} {a : Nat} {xa : List Value}
theorem q_nof_0 {w : Nat} (hw : w ≤ 16) : q_nof w = 0 ↔ w = 0 ∨ w = 1 ∨ w = 2 ∨ w = 3 ∨ w = 4 := by
  have : ∀ w, w < 17 → (q_nof w = 0 ↔ w = 0 ∨ w = 1 ∨ w = 2 ∨ w = 3 ∨ w = 4) := by decide
  exact this w (by omega)
theorem q_join_iff (e : Nat) : q_join B e = true ↔ q_word B e = 2 ∨ q_word B e = 3 ∨ q_word B e = 4 := by
  unfold q_join
  simp
theorem sp_ccond {d : Nat} {Q : Option Value → mmH → Prop} {e c lev lim stop dep k : Nat} (hd : 3 ≤ d) (ha : h.2.2 a = some (.inr (5, xa))) (hrow : q_row B n) (he : nEl h row B N ord lev lim e) (hkind : B e = 16 ∨ B e = 18 ∨ B e = 8 ∨ B e = 2 ∨ B e = 10 ∨ B e = 3 ∨ B e = 4) (hbx : B e = 3 → q_box u B lev (q_val B e) stop false = true) (hst : stop ≤ n) (hc : c ≤ 100) (hdp : dep ≤ 16)
    (hX : ∀ (m : Bool) (c : Nat) (Q' : Option Value → mmH → Prop), B e = 3 → c ≤ 100 → cEnd h a Q' (q_flt B k m (q_val B e) c) → mm_Go E (d - 1) (if m = true then 63 else 59) (mm_blk (if m = true then 63 else 59) 0) [.ref a, .ref (N e), .int (nI (dep + 1)), mm_un, mm_un] [] (cH h a c) Q')
    (hq : cEnd h a Q (q_bodyC B k e c)) : mm_Go E d 64 (mm_blk 64 0) [.ref a, .ref (N e), .int (nI dep), mm_un, mm_un] [] (cH h a c) Q := by
  have hn := hrow.1
  have hw := q_word_le B e
  have hec : ∀ c, nEl (cH h a c) row B N ord lev lim e := fun c => nEl_sub (cH_nd ha c) he
  have hcc : ∀ c, (cH h a c).2.2 (N e) = some (.inr (4, [.ref row, .int (nI (B e)), .int (nI e), .int (nI (q_ne B e)), .int (nI (q_word B e)), .int (nI (q_cls (B e))), .int (q_tf B e), .int (q_tt B e), .long (q_nu B e), q_fi B N e, q_nx B N lim e, .int (nI (ord e))])) := fun c => (hec c).1
  unfold q_bodyC at hq
  have one : q_nof (q_word B e) = 0 → mm_Go E d 64 (mm_blk 64 1) [.ref a, .ref (N e), .int (nI dep), .int (nI (q_word B e)), mm_un] [] (cH h a c) Q := by
    intro h0
    rw [if_pos h0] at hq
    repeat (first | refine gi_con ?_ | refine gi_bip (Nat.le_of_ble_eq_true rfl) ?_ | refine gi_sip (Nat.le_of_ble_eq_true rfl) ?_ | refine gi_ldc ?_ | refine gi_add ?_ | refine gi_inc rfl ?_ | refine gi_sub (by omega) ?_ | refine gi_mul ?_ | refine go_nx rfl ?_)
    refine go_rt rfl ?_
    exact hq c (fun q => by cases q)
  repeat (first | refine gi_con ?_ | refine gi_bip (Nat.le_of_ble_eq_true rfl) ?_ | refine gi_sip (Nat.le_of_ble_eq_true rfl) ?_ | refine gi_ldc ?_ | refine gi_add ?_ | refine gi_inc rfl ?_ | refine gi_sub (by omega) ?_ | refine gi_mul ?_ | refine go_nx rfl ?_)
  refine gf_get _ (hcc _) (by decide) rfl ?_
  repeat (first | refine gi_con ?_ | refine gi_bip (Nat.le_of_ble_eq_true rfl) ?_ | refine gi_sip (Nat.le_of_ble_eq_true rfl) ?_ | refine gi_ldc ?_ | refine gi_add ?_ | refine gi_inc rfl ?_ | refine gi_sub (by omega) ?_ | refine gi_mul ?_ | refine go_nx rfl ?_)
  first | refine gz_eq (by omega) (fun c1 => ?_) (fun c1 => ?_) | refine gz_ne (by omega) (fun c1 => ?_) (fun c1 => ?_) | refine gz_le (by omega) (fun c1 => ?_) (fun c1 => ?_) | refine gz_gt (by omega) (fun c1 => ?_) (fun c1 => ?_) | refine gz_lt (by omega) (fun c1 => ?_) (fun c1 => ?_) | refine gz_ge (by omega) (fun c1 => ?_) (fun c1 => ?_)
  · exact one ((q_nof_0 hw).mpr (Or.inl c1))
  repeat (first | refine gi_con ?_ | refine gi_bip (Nat.le_of_ble_eq_true rfl) ?_ | refine gi_sip (Nat.le_of_ble_eq_true rfl) ?_ | refine gi_ldc ?_ | refine gi_add ?_ | refine gi_inc rfl ?_ | refine gi_sub (by omega) ?_ | refine gi_mul ?_ | refine go_nx rfl ?_)
  first | refine gb_lt (by omega) (by omega) (fun c2 => ?_) (fun c2 => ?_) | refine gb_ge (by omega) (by omega) (fun c2 => ?_) (fun c2 => ?_) | refine gb_gt (by omega) (by omega) (fun c2 => ?_) (fun c2 => ?_) | refine gb_le (by omega) (by omega) (fun c2 => ?_) (fun c2 => ?_) | refine gb_eq (by omega) (by omega) (fun c2 => ?_) (fun c2 => ?_) | refine gb_ne (by omega) (by omega) (fun c2 => ?_) (fun c2 => ?_)
  · exact one ((q_nof_0 hw).mpr (Or.inr (Or.inl c2)))
  repeat (first | refine gi_con ?_ | refine gi_bip (Nat.le_of_ble_eq_true rfl) ?_ | refine gi_sip (Nat.le_of_ble_eq_true rfl) ?_ | refine gi_ldc ?_ | refine gi_add ?_ | refine gi_inc rfl ?_ | refine gi_sub (by omega) ?_ | refine gi_mul ?_ | refine go_nx rfl ?_)
  refine go_step ?_
  refine g_callV (by decide) (by decide) (Nat.le_of_ble_eq_true rfl) (Nat.le_of_ble_eq_true rfl) (o_rcv (hcc _) rfl (by decide)) (by omega) (Nat.le_of_ble_eq_true rfl) rfl ?_
  refine sp_joins (hcc _) rfl ?_
  refine gt_eq (fun c3 => ?_) (fun c3 => ?_)
  rotate_left
  · refine go_jp rfl ?_
    exact one ((q_nof_0 hw).mpr (Or.inr (Or.inr ((q_join_iff e).mp c3))))
  have hnof : q_nof (q_word B e) ≠ 0 := fun q => by
    rcases (q_nof_0 hw).mp q with q | q | q
    · omega
    · omega
    · have := (q_join_iff e).mpr q
      rw [c3] at this
      cases this
  rw [if_neg hnof] at hq
  repeat (first | refine gi_con ?_ | refine gi_bip (Nat.le_of_ble_eq_true rfl) ?_ | refine gi_sip (Nat.le_of_ble_eq_true rfl) ?_ | refine gi_ldc ?_ | refine gi_add ?_ | refine gi_inc rfl ?_ | refine gi_sub (by omega) ?_ | refine gi_mul ?_ | refine go_nx rfl ?_)
  refine go_step ?_
  refine g_call (k := 66) rfl (by omega) (Nat.le_of_ble_eq_true rfl) rfl ?_
  refine sp_rightv (by omega) (hec _) hrow hbx hst hkind ?_
  refine gt_eq (fun c4 => ?_) (fun c4 => ?_)
  · rw [if_pos c4] at hq
    repeat (first | refine gi_con ?_ | refine gi_bip (Nat.le_of_ble_eq_true rfl) ?_ | refine gi_sip (Nat.le_of_ble_eq_true rfl) ?_ | refine gi_ldc ?_ | refine gi_add ?_ | refine gi_inc rfl ?_ | refine gi_sub (by omega) ?_ | refine gi_mul ?_ | refine go_nx rfl ?_)
    refine go_rt rfl ?_
    exact hq c (fun q => by cases q)
  rw [c4, if_neg (by decide)] at hq
  repeat (first | refine gi_con ?_ | refine gi_bip (Nat.le_of_ble_eq_true rfl) ?_ | refine gi_sip (Nat.le_of_ble_eq_true rfl) ?_ | refine gi_ldc ?_ | refine gi_add ?_ | refine gi_inc rfl ?_ | refine gi_sub (by omega) ?_ | refine gi_mul ?_ | refine go_nx rfl ?_)
  first | refine gb_lt (by omega) (by omega) (fun c5 => ?_) (fun c5 => ?_) | refine gb_ge (by omega) (by omega) (fun c5 => ?_) (fun c5 => ?_) | refine gb_gt (by omega) (by omega) (fun c5 => ?_) (fun c5 => ?_) | refine gb_le (by omega) (by omega) (fun c5 => ?_) (fun c5 => ?_) | refine gb_eq (by omega) (by omega) (fun c5 => ?_) (fun c5 => ?_) | refine gb_ne (by omega) (by omega) (fun c5 => ?_) (fun c5 => ?_)
  rotate_left
  · omega
  repeat (first | refine gi_con ?_ | refine gi_bip (Nat.le_of_ble_eq_true rfl) ?_ | refine gi_sip (Nat.le_of_ble_eq_true rfl) ?_ | refine gi_ldc ?_ | refine gi_add ?_ | refine gi_inc rfl ?_ | refine gi_sub (by omega) ?_ | refine gi_mul ?_ | refine go_nx rfl ?_)
  refine go_step ?_
  refine g_callV (by decide) (by decide) (Nat.le_of_ble_eq_true rfl) (Nat.le_of_ble_eq_true rfl) cH_rcv (by omega) (Nat.le_of_ble_eq_true rfl) rfl ?_
  refine sp_count (by omega) (by omega) ?_
  unfold q_then at hq
  by_cases h5 : 100 < c + 1
  · rw [show q_cnt c 1 = (5, c + 1) from if_pos h5] at hq ⊢
    rw [if_neg (show ¬ (5 : Nat) = 0 by decide)] at hq
    repeat (first | refine gi_con ?_ | refine gi_bip (Nat.le_of_ble_eq_true rfl) ?_ | refine gi_sip (Nat.le_of_ble_eq_true rfl) ?_ | refine gi_ldc ?_ | refine gi_add ?_ | refine gi_inc rfl ?_ | refine gi_sub (by omega) ?_ | refine gi_mul ?_ | refine go_nx rfl ?_)
    first | refine gz_eq (by omega) (fun c6 => ?_) (fun c6 => ?_) | refine gz_ne (by omega) (fun c6 => ?_) (fun c6 => ?_) | refine gz_le (by omega) (fun c6 => ?_) (fun c6 => ?_) | refine gz_gt (by omega) (fun c6 => ?_) (fun c6 => ?_) | refine gz_lt (by omega) (fun c6 => ?_) (fun c6 => ?_) | refine gz_ge (by omega) (fun c6 => ?_) (fun c6 => ?_)
    · cases c6
    · repeat (first | refine gi_con ?_ | refine gi_bip (Nat.le_of_ble_eq_true rfl) ?_ | refine gi_sip (Nat.le_of_ble_eq_true rfl) ?_ | refine gi_ldc ?_ | refine gi_add ?_ | refine gi_inc rfl ?_ | refine gi_sub (by omega) ?_ | refine gi_mul ?_ | refine go_nx rfl ?_)
      refine go_rt rfl ?_
      exact hq _ (fun _ => rfl)
  rw [show q_cnt c 1 = (0, c + 1) from if_neg h5] at hq ⊢
  rw [if_pos rfl] at hq
  repeat (first | refine gi_con ?_ | refine gi_bip (Nat.le_of_ble_eq_true rfl) ?_ | refine gi_sip (Nat.le_of_ble_eq_true rfl) ?_ | refine gi_ldc ?_ | refine gi_add ?_ | refine gi_inc rfl ?_ | refine gi_sub (by omega) ?_ | refine gi_mul ?_ | refine go_nx rfl ?_)
  first | refine gz_eq (by omega) (fun c6 => ?_) (fun c6 => ?_) | refine gz_ne (by omega) (fun c6 => ?_) (fun c6 => ?_) | refine gz_le (by omega) (fun c6 => ?_) (fun c6 => ?_) | refine gz_gt (by omega) (fun c6 => ?_) (fun c6 => ?_) | refine gz_lt (by omega) (fun c6 => ?_) (fun c6 => ?_) | refine gz_ge (by omega) (fun c6 => ?_) (fun c6 => ?_)
  rotate_left
  · exact absurd c6 (Nat.lt_irrefl 0)
  have hq : cEnd h a Q (if q_word B e = 16 then q_flt B k true (q_val B e) (c + 1) else if q_word B e = 15 then (if q_ofi B e = true then q_flt B k true (q_val B e) (c + 1) else q_flt B k false (q_val B e) (c + 1)) else (0, c + 1)) := hq
  have six : ∀ (x4 : Value), B e = 3 → cEnd h a Q (q_flt B k true (q_val B e) (c + 1)) → mm_Go E d 64 (mm_blk 64 6) [.ref a, .ref (N e), .int (nI dep), .int (nI (q_word B e)), x4] [] (cH h a (c + 1)) Q := by
    intro x4 h3 hq
    repeat (first | refine gi_con ?_ | refine gi_bip (Nat.le_of_ble_eq_true rfl) ?_ | refine gi_sip (Nat.le_of_ble_eq_true rfl) ?_ | refine gi_ldc ?_ | refine gi_add ?_ | refine gi_inc rfl ?_ | refine gi_sub (by omega) ?_ | refine gi_mul ?_ | refine go_nx rfl ?_)
    refine go_step ?_
    refine g_callV (by decide) (by decide) (Nat.le_of_ble_eq_true rfl) (Nat.le_of_ble_eq_true rfl) cH_rcv (by omega) (Nat.le_of_ble_eq_true rfl) rfl ?_
    refine hX true (c + 1) _ h3 (by omega) (fun c' hc' => ?_)
    refine go_rt rfl ?_
    exact hq c' hc'
  unfold q_good at c4
  repeat (first | refine gi_con ?_ | refine gi_bip (Nat.le_of_ble_eq_true rfl) ?_ | refine gi_sip (Nat.le_of_ble_eq_true rfl) ?_ | refine gi_ldc ?_ | refine gi_add ?_ | refine gi_inc rfl ?_ | refine gi_sub (by omega) ?_ | refine gi_mul ?_ | refine go_nx rfl ?_)
  first | refine gb_lt (by omega) (by omega) (fun c7 => ?_) (fun c7 => ?_) | refine gb_ge (by omega) (by omega) (fun c7 => ?_) (fun c7 => ?_) | refine gb_gt (by omega) (by omega) (fun c7 => ?_) (fun c7 => ?_) | refine gb_le (by omega) (by omega) (fun c7 => ?_) (fun c7 => ?_) | refine gb_eq (by omega) (by omega) (fun c7 => ?_) (fun c7 => ?_) | refine gb_ne (by omega) (by omega) (fun c7 => ?_) (fun c7 => ?_)
  · rw [if_pos c7] at hq
    rw [c7, if_neg (by decide), if_neg (by decide), if_neg (by decide), if_neg (by decide), if_pos rfl] at c4
    unfold q_cond at c4
    simp only [Bool.and_eq_true, decide_eq_true_eq] at c4
    exact six _ c4.1 hq
  rw [if_neg c7] at hq
  repeat (first | refine gi_con ?_ | refine gi_bip (Nat.le_of_ble_eq_true rfl) ?_ | refine gi_sip (Nat.le_of_ble_eq_true rfl) ?_ | refine gi_ldc ?_ | refine gi_add ?_ | refine gi_inc rfl ?_ | refine gi_sub (by omega) ?_ | refine gi_mul ?_ | refine go_nx rfl ?_)
  have seven15 : ∀ (x4 : Value), q_word B e ≠ 15 → mm_Go E d 64 (mm_blk 64 7) [.ref a, .ref (N e), .int (nI dep), .int (nI (q_word B e)), x4] [] (cH h a (c + 1)) Q := by
    intro x4 h15
    rw [if_neg h15] at hq
    repeat (first | refine gi_con ?_ | refine gi_bip (Nat.le_of_ble_eq_true rfl) ?_ | refine gi_sip (Nat.le_of_ble_eq_true rfl) ?_ | refine gi_ldc ?_ | refine gi_add ?_ | refine gi_inc rfl ?_ | refine gi_sub (by omega) ?_ | refine gi_mul ?_ | refine go_nx rfl ?_)
    first | refine gb_lt (by omega) (by omega) (fun c9 => ?_) (fun c9 => ?_) | refine gb_ge (by omega) (by omega) (fun c9 => ?_) (fun c9 => ?_) | refine gb_gt (by omega) (by omega) (fun c9 => ?_) (fun c9 => ?_) | refine gb_le (by omega) (by omega) (fun c9 => ?_) (fun c9 => ?_) | refine gb_eq (by omega) (by omega) (fun c9 => ?_) (fun c9 => ?_) | refine gb_ne (by omega) (by omega) (fun c9 => ?_) (fun c9 => ?_)
    · repeat (first | refine gi_con ?_ | refine gi_bip (Nat.le_of_ble_eq_true rfl) ?_ | refine gi_sip (Nat.le_of_ble_eq_true rfl) ?_ | refine gi_ldc ?_ | refine gi_add ?_ | refine gi_inc rfl ?_ | refine gi_sub (by omega) ?_ | refine gi_mul ?_ | refine go_nx rfl ?_)
      refine go_jp rfl ?_
      refine go_rt rfl ?_
      exact hq _ (fun _ => rfl)
    · exact absurd c9 h15
  first | refine gb_lt (by omega) (by omega) (fun c8 => ?_) (fun c8 => ?_) | refine gb_ge (by omega) (by omega) (fun c8 => ?_) (fun c8 => ?_) | refine gb_gt (by omega) (by omega) (fun c8 => ?_) (fun c8 => ?_) | refine gb_le (by omega) (by omega) (fun c8 => ?_) (fun c8 => ?_) | refine gb_eq (by omega) (by omega) (fun c8 => ?_) (fun c8 => ?_) | refine gb_ne (by omega) (by omega) (fun c8 => ?_) (fun c8 => ?_)
  · exact seven15 _ c8
  rw [if_pos c8] at hq
  rw [c8, if_neg (by decide), if_neg (by decide), if_neg (by decide), if_pos rfl] at c4
  have h3 : B e = 3 := of_decide_eq_true c4
  repeat (first | refine gi_con ?_ | refine gi_bip (Nat.le_of_ble_eq_true rfl) ?_ | refine gi_sip (Nat.le_of_ble_eq_true rfl) ?_ | refine gi_ldc ?_ | refine gi_add ?_ | refine gi_inc rfl ?_ | refine gi_sub (by omega) ?_ | refine gi_mul ?_ | refine go_nx rfl ?_)
  refine go_step ?_
  refine g_callV (by decide) (by decide) (Nat.le_of_ble_eq_true rfl) (Nat.le_of_ble_eq_true rfl) (o_rcv (hcc _) rfl (by decide)) (by omega) (Nat.le_of_ble_eq_true rfl) rfl ?_
  refine sp_ofitem (u := u) (rw_ := false) (by omega) (hec _) hrow (fun _ => hbx h3) hst ?_
  refine gt_eq (fun c9 => ?_) (fun c9 => ?_)
  · rw [c9, if_neg (by decide)] at hq
    repeat (first | refine gi_con ?_ | refine gi_bip (Nat.le_of_ble_eq_true rfl) ?_ | refine gi_sip (Nat.le_of_ble_eq_true rfl) ?_ | refine gi_ldc ?_ | refine gi_add ?_ | refine gi_inc rfl ?_ | refine gi_sub (by omega) ?_ | refine gi_mul ?_ | refine go_nx rfl ?_)
    first | refine gb_lt (by omega) (by omega) (fun c10 => ?_) (fun c10 => ?_) | refine gb_ge (by omega) (by omega) (fun c10 => ?_) (fun c10 => ?_) | refine gb_gt (by omega) (by omega) (fun c10 => ?_) (fun c10 => ?_) | refine gb_le (by omega) (by omega) (fun c10 => ?_) (fun c10 => ?_) | refine gb_eq (by omega) (by omega) (fun c10 => ?_) (fun c10 => ?_) | refine gb_ne (by omega) (by omega) (fun c10 => ?_) (fun c10 => ?_)
    · exact absurd c8 c10
    repeat (first | refine gi_con ?_ | refine gi_bip (Nat.le_of_ble_eq_true rfl) ?_ | refine gi_sip (Nat.le_of_ble_eq_true rfl) ?_ | refine gi_ldc ?_ | refine gi_add ?_ | refine gi_inc rfl ?_ | refine gi_sub (by omega) ?_ | refine gi_mul ?_ | refine go_nx rfl ?_)
    refine go_step ?_
    refine g_callV (by decide) (by decide) (Nat.le_of_ble_eq_true rfl) (Nat.le_of_ble_eq_true rfl) cH_rcv (by omega) (Nat.le_of_ble_eq_true rfl) rfl ?_
    refine hX false (c + 1) _ h3 (by omega) (fun c' hc' => ?_)
    refine go_jp rfl ?_
    refine go_rt rfl ?_
    exact hq c' hc'
  · rw [if_pos c9] at hq
    refine go_jp rfl ?_
    exact six _ h3 hq
/-- what faultOfFilter and faultOfConditions do -/
theorem sp_clook (ha : h.2.2 a = some (.inr (5, xa))) (hr : bRow h row n B) (hrow : q_row B n) : ∀ (k : Nat) (m : Bool) (d w : Nat) (fsw : List Value) (v stop lev c dep : Nat) (Q : Option Value → mmH → Prop), 2 * k + 8 ≤ d → lev ≤ k → dep + lev ≤ 17 → q_box u B lev v stop false = true → stop ≤ n → c ≤ 100 → h.2.2 w = some (.inr (4, fsw)) → fsw[9]? = some (if v + 4 < q_last B v then .ref (N (v + 4)) else .null) → nBox h row B N ord lev v → cEnd h a Q (q_flt B k m v c) → mm_Go E d (if m = true then 63 else 59) (mm_blk (if m = true then 63 else 59) 0) [.ref a, .ref w, .int (nI dep), mm_un, mm_un] [] (cH h a c) Q := by
  have hn := hrow.1
  intro k
  induction k with
  | zero =>
    intro m d w fsw v stop lev c dep Q hd hl hdl hb
    have := q_box_pos hb
    omega
  | succ k ih =>
    intro m d w fsw v stop lev c dep Q hd hl hdl hb hst hc hw hw9 hnb hq
    have hlev : lev = lev - 1 + 1 := by have := q_box_pos hb; omega
    have hbl := q_box_le hb
    have hb0 := hb
    rw [hlev] at hb
    obtain ⟨g1, g2, g3, g4⟩ := q_box_at hb
    have hlastn : q_last B v < n := by unfold q_last; omega
    rw [hlev, nBox_s] at hnb
    have hww : ∀ c, (cH h a c).2.2 w = some (.inr (4, fsw)) := fun c => by rw [cH_nd ha c w _ hw]; exact hw
    have hsub : ∀ (e i : Nat), e < q_last B v → q_at u (lev - 1) B false (q_last B v) e i → nEl h row B N ord (lev - 1) (q_last B v) e → B e = 3 → ∀ (m : Bool) (d2 c2 dep2 : Nat) (Q' : Option Value → mmH → Prop), 2 * k + 8 ≤ d2 → c2 ≤ 100 → dep2 ≤ dep + 1 → cEnd h a Q' (q_flt B k m (q_val B e) c2) → mm_Go E d2 (if m = true then 63 else 59) (mm_blk (if m = true then 63 else 59) 0) [.ref a, .ref (N e), .int (nI dep2), mm_un, mm_un] [] (cH h a c2) Q' := by
      intro e i hel hat hne h3 m d2 c2 dep2 Q' hd2 hc2 hdp hq'
      have hx := q_at_el hat hel
      have hbe := (q_at_box hx.2.1).1 h3
      refine ih m d2 (N e) _ (q_val B e) (q_last B v) (lev - 1) c2 dep2 Q' hd2 (by omega) (by omega) hbe (by omega) hc2 hne.1 ?_ (hne.2 (Or.inl h3)) hq'
      show some (q_fi B N e) = _
      congr 1
      unfold q_fi
      exact if_cg ⟨fun q => q.2, fun q => ⟨Or.inl h3, q⟩⟩
    cases m with
    | true =>
      show mm_Go E d 63 (mm_blk 63 0) [.ref a, .ref w, .int (nI dep), mm_un, mm_un] [] (cH h a c) Q
      rw [q_flt_C] at hq
      have gone : ∀ (f c1 : Nat) (cur : Value), 0 < f → f < 100 → (cur = .null ∨ ∃ z, cur = .ref z) → Q (some (.int (nI f))) (cH h a c1) → mm_Go E d 63 (mm_blk 63 1) [.ref a, .ref w, .int (nI dep), .int (nI f), cur] [] (cH h a c1) Q := by
        intro f c1 cur h1 h2 h3 hq
        rcases h3 with h3 | ⟨z, h3⟩
        · subst h3
          repeat (first | refine gi_con ?_ | refine gi_bip (Nat.le_of_ble_eq_true rfl) ?_ | refine gi_sip (Nat.le_of_ble_eq_true rfl) ?_ | refine gi_ldc ?_ | refine gi_add ?_ | refine gi_inc rfl ?_ | refine gi_sub (by omega) ?_ | refine gi_mul ?_ | refine go_nx rfl ?_)
          refine gn_nN ?_
          repeat (first | refine gi_con ?_ | refine gi_bip (Nat.le_of_ble_eq_true rfl) ?_ | refine gi_sip (Nat.le_of_ble_eq_true rfl) ?_ | refine gi_ldc ?_ | refine gi_add ?_ | refine gi_inc rfl ?_ | refine gi_sub (by omega) ?_ | refine gi_mul ?_ | refine go_nx rfl ?_)
          refine go_rt rfl ?_
          exact hq
        · subst h3
          repeat (first | refine gi_con ?_ | refine gi_bip (Nat.le_of_ble_eq_true rfl) ?_ | refine gi_sip (Nat.le_of_ble_eq_true rfl) ?_ | refine gi_ldc ?_ | refine gi_add ?_ | refine gi_inc rfl ?_ | refine gi_sub (by omega) ?_ | refine gi_mul ?_ | refine go_nx rfl ?_)
          refine gn_nR ?_
          repeat (first | refine gi_con ?_ | refine gi_bip (Nat.le_of_ble_eq_true rfl) ?_ | refine gi_sip (Nat.le_of_ble_eq_true rfl) ?_ | refine gi_ldc ?_ | refine gi_add ?_ | refine gi_inc rfl ?_ | refine gi_sub (by omega) ?_ | refine gi_mul ?_ | refine go_nx rfl ?_)
          first | refine gz_eq (by omega) (fun c4 => ?_) (fun c4 => ?_) | refine gz_ne (by omega) (fun c4 => ?_) (fun c4 => ?_) | refine gz_le (by omega) (fun c4 => ?_) (fun c4 => ?_) | refine gz_gt (by omega) (fun c4 => ?_) (fun c4 => ?_) | refine gz_lt (by omega) (fun c4 => ?_) (fun c4 => ?_) | refine gz_ge (by omega) (fun c4 => ?_) (fun c4 => ?_)
          · repeat (first | refine gi_con ?_ | refine gi_bip (Nat.le_of_ble_eq_true rfl) ?_ | refine gi_sip (Nat.le_of_ble_eq_true rfl) ?_ | refine gi_ldc ?_ | refine gi_add ?_ | refine gi_inc rfl ?_ | refine gi_sub (by omega) ?_ | refine gi_mul ?_ | refine go_nx rfl ?_)
            refine go_rt rfl ?_
            exact hq
          · omega
      have loop : ∀ (f i idx c : Nat), q_last B v < f + i → q_at u (lev - 1) B false (q_last B v) i idx → (∀ x ∈ q_els B (q_last B v) f i, nEl h row B N ord (lev - 1) (q_last B v) x) → c ≤ 100 → cEnd h a Q (q_lp B (q_last B v) (q_bodyC B k) f i c) → mm_Go E d 63 (mm_blk 63 1) [.ref a, .ref w, .int (nI dep), .int (nI 0), if i < q_last B v then .ref (N i) else .null] [] (cH h a c) Q := by
        intro f
        induction f with
        | zero =>
          intro i idx c hf hat
          have := q_at_le hat
          omega
        | succ f ihf =>
          intro i idx c hf hat hels hc hq
          rw [q_lp_s] at hq
          by_cases hil : i < q_last B v
          · rw [if_pos hil] at hq
            rw [q_els_s, if_pos hil] at hels
            rw [if_pos hil]
            have hel := q_at_el hat hil
            have hei := hels i List.mem_cons_self
            have hci : ∀ c, (cH h a c).2.2 (N i) = some (.inr (4, [.ref row, .int (nI (B i)), .int (nI i), .int (nI (q_ne B i)), .int (nI (q_word B i)), .int (nI (q_cls (B i))), .int (q_tf B i), .int (q_tt B i), .long (q_nu B i), q_fi B N i, q_nx B N (q_last B v) i, .int (nI (ord i))])) := fun c => (nEl_sub (cH_nd ha c) hei).1
            have hnxi : i < q_next B i := by
              have := q_val_ge B i
              unfold q_next
              omega
            repeat (first | refine gi_con ?_ | refine gi_bip (Nat.le_of_ble_eq_true rfl) ?_ | refine gi_sip (Nat.le_of_ble_eq_true rfl) ?_ | refine gi_ldc ?_ | refine gi_add ?_ | refine gi_inc rfl ?_ | refine gi_sub (by omega) ?_ | refine gi_mul ?_ | refine go_nx rfl ?_)
            refine gn_nR ?_
            repeat (first | refine gi_con ?_ | refine gi_bip (Nat.le_of_ble_eq_true rfl) ?_ | refine gi_sip (Nat.le_of_ble_eq_true rfl) ?_ | refine gi_ldc ?_ | refine gi_add ?_ | refine gi_inc rfl ?_ | refine gi_sub (by omega) ?_ | refine gi_mul ?_ | refine go_nx rfl ?_)
            first | refine gz_eq (by omega) (fun c4 => ?_) (fun c4 => ?_) | refine gz_ne (by omega) (fun c4 => ?_) (fun c4 => ?_) | refine gz_le (by omega) (fun c4 => ?_) (fun c4 => ?_) | refine gz_gt (by omega) (fun c4 => ?_) (fun c4 => ?_) | refine gz_lt (by omega) (fun c4 => ?_) (fun c4 => ?_) | refine gz_ge (by omega) (fun c4 => ?_) (fun c4 => ?_)
            · exact absurd c4 (by decide)
            repeat (first | refine gi_con ?_ | refine gi_bip (Nat.le_of_ble_eq_true rfl) ?_ | refine gi_sip (Nat.le_of_ble_eq_true rfl) ?_ | refine gi_ldc ?_ | refine gi_add ?_ | refine gi_inc rfl ?_ | refine gi_sub (by omega) ?_ | refine gi_mul ?_ | refine go_nx rfl ?_)
            refine go_step ?_
            refine g_callV (by decide) (by decide) (Nat.le_of_ble_eq_true rfl) (Nat.le_of_ble_eq_true rfl) cH_rcv (by omega) (Nat.le_of_ble_eq_true rfl) rfl ?_
            refine sp_ccond (k := k) (by omega) ha hrow hei (q_vok_kind hel.2.1) (q_at_box hel.2.1).1 (by omega) hc (by omega) (fun m c2 Q' h3 hc2 hq' => hsub i idx hil hat hei h3 m (d - 1 - 1) c2 (dep + 1) Q' (by omega) hc2 (by omega) hq') (fun c1 hc1 => ?_)
            have hr1 := q_le_C B k i c hc
            unfold q_then at hq
            have hr5 := hr1.1
            repeat (first | refine gi_con ?_ | refine gi_bip (Nat.le_of_ble_eq_true rfl) ?_ | refine gi_sip (Nat.le_of_ble_eq_true rfl) ?_ | refine gi_ldc ?_ | refine gi_add ?_ | refine gi_inc rfl ?_ | refine gi_sub (by omega) ?_ | refine gi_mul ?_ | refine go_nx rfl ?_)
            refine gf_get _ (hci _) (by decide) rfl ?_
            have fin : ∀ cur : Value, cur = q_nx B N (q_last B v) i → mm_Go E d 63 (mm_blk 63 1) [.ref a, .ref w, .int (nI dep), .int (nI (q_bodyC B k i c).1), cur] [] (cH h a c1) Q := by
              intro cur hcur
              by_cases h0 : (q_bodyC B k i c).1 = 0
              · rw [if_pos h0] at hq
                rw [h0, hc1 h0, hcur]
                exact ihf (q_next B i) (idx + 1) _ (by omega) hel.2.2.2.2 (fun x hx => hels x (List.mem_cons_of_mem _ hx)) (hr1.2 h0) hq
              · rw [if_neg h0] at hq
                exact gone _ c1 cur (by omega) (by omega) (by rw [hcur]; exact nx_two _ _) (hq c1 hc1)
            rcases nx_two (B := B) (N := N) (q_last B v) i with h3 | ⟨z, h3⟩
            · rw [h3]
              repeat (first | refine gi_con ?_ | refine gi_bip (Nat.le_of_ble_eq_true rfl) ?_ | refine gi_sip (Nat.le_of_ble_eq_true rfl) ?_ | refine gi_ldc ?_ | refine gi_add ?_ | refine gi_inc rfl ?_ | refine gi_sub (by omega) ?_ | refine gi_mul ?_ | refine go_nx rfl ?_)
              refine go_jp rfl ?_
              exact fin _ h3.symm
            · rw [h3]
              repeat (first | refine gi_con ?_ | refine gi_bip (Nat.le_of_ble_eq_true rfl) ?_ | refine gi_sip (Nat.le_of_ble_eq_true rfl) ?_ | refine gi_ldc ?_ | refine gi_add ?_ | refine gi_inc rfl ?_ | refine gi_sub (by omega) ?_ | refine gi_mul ?_ | refine go_nx rfl ?_)
              refine go_jp rfl ?_
              exact fin _ h3.symm
          · rw [if_neg hil] at hq
            rw [if_neg hil]
            repeat (first | refine gi_con ?_ | refine gi_bip (Nat.le_of_ble_eq_true rfl) ?_ | refine gi_sip (Nat.le_of_ble_eq_true rfl) ?_ | refine gi_ldc ?_ | refine gi_add ?_ | refine gi_inc rfl ?_ | refine gi_sub (by omega) ?_ | refine gi_mul ?_ | refine go_nx rfl ?_)
            refine gn_nN ?_
            repeat (first | refine gi_con ?_ | refine gi_bip (Nat.le_of_ble_eq_true rfl) ?_ | refine gi_sip (Nat.le_of_ble_eq_true rfl) ?_ | refine gi_ldc ?_ | refine gi_add ?_ | refine gi_inc rfl ?_ | refine gi_sub (by omega) ?_ | refine gi_mul ?_ | refine go_nx rfl ?_)
            refine go_rt rfl ?_
            exact hq c (fun _ => rfl)
      have := loop 2001 (v + 4) 0 c (by omega) g4 hnb hc hq
      repeat (first | refine gi_con ?_ | refine gi_bip (Nat.le_of_ble_eq_true rfl) ?_ | refine gi_sip (Nat.le_of_ble_eq_true rfl) ?_ | refine gi_ldc ?_ | refine gi_add ?_ | refine gi_inc rfl ?_ | refine gi_sub (by omega) ?_ | refine gi_mul ?_ | refine go_nx rfl ?_)
      refine gf_get _ (hww _) (by decide) hw9 ?_
      by_cases hlt : v + 4 < q_last B v
      · rw [if_pos hlt] at this ⊢
        repeat (first | refine gi_con ?_ | refine gi_bip (Nat.le_of_ble_eq_true rfl) ?_ | refine gi_sip (Nat.le_of_ble_eq_true rfl) ?_ | refine gi_ldc ?_ | refine gi_add ?_ | refine gi_inc rfl ?_ | refine gi_sub (by omega) ?_ | refine gi_mul ?_ | refine go_nx rfl ?_)
        refine go_jp rfl ?_
        exact this
      · rw [if_neg hlt] at this ⊢
        repeat (first | refine gi_con ?_ | refine gi_bip (Nat.le_of_ble_eq_true rfl) ?_ | refine gi_sip (Nat.le_of_ble_eq_true rfl) ?_ | refine gi_ldc ?_ | refine gi_add ?_ | refine gi_inc rfl ?_ | refine gi_sub (by omega) ?_ | refine gi_mul ?_ | refine go_nx rfl ?_)
        refine go_jp rfl ?_
        exact this
    | false =>
      show mm_Go E d 59 (mm_blk 59 0) [.ref a, .ref w, .int (nI dep), mm_un, mm_un] [] (cH h a c) Q
      rw [q_flt_F] at hq
      have gone : ∀ (f c1 : Nat) (cur : Value), 0 < f → f < 100 → (cur = .null ∨ ∃ z, cur = .ref z) → Q (some (.int (nI f))) (cH h a c1) → mm_Go E d 59 (mm_blk 59 1) [.ref a, .ref w, .int (nI dep), .int (nI f), cur] [] (cH h a c1) Q := by
        intro f c1 cur h1 h2 h3 hq
        rcases h3 with h3 | ⟨z, h3⟩
        · subst h3
          repeat (first | refine gi_con ?_ | refine gi_bip (Nat.le_of_ble_eq_true rfl) ?_ | refine gi_sip (Nat.le_of_ble_eq_true rfl) ?_ | refine gi_ldc ?_ | refine gi_add ?_ | refine gi_inc rfl ?_ | refine gi_sub (by omega) ?_ | refine gi_mul ?_ | refine go_nx rfl ?_)
          refine gn_nN ?_
          repeat (first | refine gi_con ?_ | refine gi_bip (Nat.le_of_ble_eq_true rfl) ?_ | refine gi_sip (Nat.le_of_ble_eq_true rfl) ?_ | refine gi_ldc ?_ | refine gi_add ?_ | refine gi_inc rfl ?_ | refine gi_sub (by omega) ?_ | refine gi_mul ?_ | refine go_nx rfl ?_)
          refine go_rt rfl ?_
          exact hq
        · subst h3
          repeat (first | refine gi_con ?_ | refine gi_bip (Nat.le_of_ble_eq_true rfl) ?_ | refine gi_sip (Nat.le_of_ble_eq_true rfl) ?_ | refine gi_ldc ?_ | refine gi_add ?_ | refine gi_inc rfl ?_ | refine gi_sub (by omega) ?_ | refine gi_mul ?_ | refine go_nx rfl ?_)
          refine gn_nR ?_
          repeat (first | refine gi_con ?_ | refine gi_bip (Nat.le_of_ble_eq_true rfl) ?_ | refine gi_sip (Nat.le_of_ble_eq_true rfl) ?_ | refine gi_ldc ?_ | refine gi_add ?_ | refine gi_inc rfl ?_ | refine gi_sub (by omega) ?_ | refine gi_mul ?_ | refine go_nx rfl ?_)
          first | refine gz_eq (by omega) (fun c4 => ?_) (fun c4 => ?_) | refine gz_ne (by omega) (fun c4 => ?_) (fun c4 => ?_) | refine gz_le (by omega) (fun c4 => ?_) (fun c4 => ?_) | refine gz_gt (by omega) (fun c4 => ?_) (fun c4 => ?_) | refine gz_lt (by omega) (fun c4 => ?_) (fun c4 => ?_) | refine gz_ge (by omega) (fun c4 => ?_) (fun c4 => ?_)
          · repeat (first | refine gi_con ?_ | refine gi_bip (Nat.le_of_ble_eq_true rfl) ?_ | refine gi_sip (Nat.le_of_ble_eq_true rfl) ?_ | refine gi_ldc ?_ | refine gi_add ?_ | refine gi_inc rfl ?_ | refine gi_sub (by omega) ?_ | refine gi_mul ?_ | refine go_nx rfl ?_)
            refine go_rt rfl ?_
            exact hq
          · omega
      have loop : ∀ (f i idx c : Nat), q_last B v < f + i → q_at u (lev - 1) B false (q_last B v) i idx → (∀ x ∈ q_els B (q_last B v) f i, nEl h row B N ord (lev - 1) (q_last B v) x) → c ≤ 100 → cEnd h a Q (q_lp B (q_last B v) (q_bodyF B k) f i c) → mm_Go E d 59 (mm_blk 59 1) [.ref a, .ref w, .int (nI dep), .int (nI 0), if i < q_last B v then .ref (N i) else .null] [] (cH h a c) Q := by
        intro f
        induction f with
        | zero =>
          intro i idx c hf hat
          have := q_at_le hat
          omega
        | succ f ihf =>
          intro i idx c hf hat hels hc hq
          rw [q_lp_s] at hq
          by_cases hil : i < q_last B v
          · rw [if_pos hil] at hq
            rw [q_els_s, if_pos hil] at hels
            rw [if_pos hil]
            have hel := q_at_el hat hil
            have hok := q_at_ok (n := n) hat hil (by omega)
            have hei := hels i List.mem_cons_self
            have hwi := q_word_le B i
            have hci : ∀ c, (cH h a c).2.2 (N i) = some (.inr (4, [.ref row, .int (nI (B i)), .int (nI i), .int (nI (q_ne B i)), .int (nI (q_word B i)), .int (nI (q_cls (B i))), .int (q_tf B i), .int (q_tt B i), .long (q_nu B i), q_fi B N i, q_nx B N (q_last B v) i, .int (nI (ord i))])) := fun c => (nEl_sub (cH_nd ha c) hei).1
            have hnxi : i < q_next B i := by
              have := q_val_ge B i
              unfold q_next
              omega
            have three : ∀ (c1 : Nat), ((q_bodyF B k i c).1 = 0 → c1 = (q_bodyF B k i c).2) → mm_Go E d 59 (mm_blk 59 3) [.ref a, .ref w, .int (nI dep), .int (nI 0), .ref (N i)] [.int (nI (q_bodyF B k i c).1)] (cH h a c1) Q := by
              intro c1 hc1
              have hr1 := q_le_F B k i c hc
              unfold q_then at hq
              have hr5 := hr1.1
              repeat (first | refine gi_con ?_ | refine gi_bip (Nat.le_of_ble_eq_true rfl) ?_ | refine gi_sip (Nat.le_of_ble_eq_true rfl) ?_ | refine gi_ldc ?_ | refine gi_add ?_ | refine gi_inc rfl ?_ | refine gi_sub (by omega) ?_ | refine gi_mul ?_ | refine go_nx rfl ?_)
              refine gf_get _ (hci _) (by decide) rfl ?_
              have fin : ∀ cur : Value, cur = q_nx B N (q_last B v) i → mm_Go E d 59 (mm_blk 59 1) [.ref a, .ref w, .int (nI dep), .int (nI (q_bodyF B k i c).1), cur] [] (cH h a c1) Q := by
                intro cur hcur
                by_cases h0 : (q_bodyF B k i c).1 = 0
                · rw [if_pos h0] at hq
                  rw [h0, hc1 h0, hcur]
                  exact ihf (q_next B i) (idx + 1) _ (by omega) hel.2.2.2.2 (fun x hx => hels x (List.mem_cons_of_mem _ hx)) (hr1.2 h0) hq
                · rw [if_neg h0] at hq
                  exact gone _ c1 cur (by omega) (by omega) (by rw [hcur]; exact nx_two _ _) (hq c1 hc1)
              rcases nx_two (B := B) (N := N) (q_last B v) i with h3 | ⟨z, h3⟩
              · rw [h3]
                repeat (first | refine gi_con ?_ | refine gi_bip (Nat.le_of_ble_eq_true rfl) ?_ | refine gi_sip (Nat.le_of_ble_eq_true rfl) ?_ | refine gi_ldc ?_ | refine gi_add ?_ | refine gi_inc rfl ?_ | refine gi_sub (by omega) ?_ | refine gi_mul ?_ | refine go_nx rfl ?_)
                refine go_jp rfl ?_
                exact fin _ h3.symm
              · rw [h3]
                repeat (first | refine gi_con ?_ | refine gi_bip (Nat.le_of_ble_eq_true rfl) ?_ | refine gi_sip (Nat.le_of_ble_eq_true rfl) ?_ | refine gi_ldc ?_ | refine gi_add ?_ | refine gi_inc rfl ?_ | refine gi_sub (by omega) ?_ | refine gi_mul ?_ | refine go_nx rfl ?_)
                refine go_jp rfl ?_
                exact fin _ h3.symm
            repeat (first | refine gi_con ?_ | refine gi_bip (Nat.le_of_ble_eq_true rfl) ?_ | refine gi_sip (Nat.le_of_ble_eq_true rfl) ?_ | refine gi_ldc ?_ | refine gi_add ?_ | refine gi_inc rfl ?_ | refine gi_sub (by omega) ?_ | refine gi_mul ?_ | refine go_nx rfl ?_)
            refine gn_nR ?_
            repeat (first | refine gi_con ?_ | refine gi_bip (Nat.le_of_ble_eq_true rfl) ?_ | refine gi_sip (Nat.le_of_ble_eq_true rfl) ?_ | refine gi_ldc ?_ | refine gi_add ?_ | refine gi_inc rfl ?_ | refine gi_sub (by omega) ?_ | refine gi_mul ?_ | refine go_nx rfl ?_)
            first | refine gz_eq (by omega) (fun c4 => ?_) (fun c4 => ?_) | refine gz_ne (by omega) (fun c4 => ?_) (fun c4 => ?_) | refine gz_le (by omega) (fun c4 => ?_) (fun c4 => ?_) | refine gz_gt (by omega) (fun c4 => ?_) (fun c4 => ?_) | refine gz_lt (by omega) (fun c4 => ?_) (fun c4 => ?_) | refine gz_ge (by omega) (fun c4 => ?_) (fun c4 => ?_)
            · exact absurd c4 (by decide)
            repeat (first | refine gi_con ?_ | refine gi_bip (Nat.le_of_ble_eq_true rfl) ?_ | refine gi_sip (Nat.le_of_ble_eq_true rfl) ?_ | refine gi_ldc ?_ | refine gi_add ?_ | refine gi_inc rfl ?_ | refine gi_sub (by omega) ?_ | refine gi_mul ?_ | refine go_nx rfl ?_)
            refine gf_get _ (hci _) (by decide) rfl ?_
            first | refine gz_eq (by omega) (fun c5 => ?_) (fun c5 => ?_) | refine gz_ne (by omega) (fun c5 => ?_) (fun c5 => ?_) | refine gz_le (by omega) (fun c5 => ?_) (fun c5 => ?_) | refine gz_gt (by omega) (fun c5 => ?_) (fun c5 => ?_) | refine gz_lt (by omega) (fun c5 => ?_) (fun c5 => ?_) | refine gz_ge (by omega) (fun c5 => ?_) (fun c5 => ?_)
            · have hbd : q_bodyF B k i c = (if q_join B i = false then (1, c) else if B i ≠ 4 ∨ q_sz B (q_val B i) = 5 then (2, c) else q_then (q_cnt c 1) (fun c => q_lp B (q_last B (q_val B i)) (fun i c => if B i = 3 then q_flt B k false (q_val B i) c else (2, c)) 2001 (q_val B i + 4) c)) := if_neg (by omega)
              rw [hbd] at three
              repeat (first | refine gi_con ?_ | refine gi_bip (Nat.le_of_ble_eq_true rfl) ?_ | refine gi_sip (Nat.le_of_ble_eq_true rfl) ?_ | refine gi_ldc ?_ | refine gi_add ?_ | refine gi_inc rfl ?_ | refine gi_sub (by omega) ?_ | refine gi_mul ?_ | refine go_nx rfl ?_)
              refine go_step ?_
              refine g_callV (by decide) (by decide) (Nat.le_of_ble_eq_true rfl) (Nat.le_of_ble_eq_true rfl) cH_rcv (by omega) (Nat.le_of_ble_eq_true rfl) rfl ?_
              refine sp_cjoin (X := fun i c => q_flt B k false (q_val B i) c) (u := u) (lev := lev - 1) (stop := q_last B v) (by omega) ha hrow hei hok (q_at_box hel.2.1).2 (by omega) hc (by omega) (fun i c hc => q_flt_le _ _ _ _ _ hc) (fun j idx2 c2 Q' h4 h3 hjl hat2 hej hc2 hq' => ?_) (fun c1 hc1 => ?_)
              · have hb4 := (q_at_box hel.2.1).2 h4
                have hb4l := q_box_le hb4
                have hx := q_at_el hat2 hjl
                have hbe := (q_at_box hx.2.1).1 h3
                have hl2 := q_box_pos hb4
                refine ih false (d - 1 - 1) (N j) _ (q_val B j) (q_last B (q_val B i)) (lev - 1 - 1) c2 (dep + 1) Q' (by omega) (by omega) (by omega) hbe (by unfold q_last at hb4l ⊢; omega) hc2 hej.1 ?_ (hej.2 (Or.inl h3)) hq'
                show some (q_fi B N j) = _
                congr 1
                unfold q_fi
                exact if_cg ⟨fun q => q.2, fun q => ⟨Or.inl h3, q⟩⟩
              · refine go_jp rfl ?_
                exact three c1 hc1
            · have hbd : q_bodyF B k i c = (if q_gp B i = false then (3, c) else if q_cond B i = true then q_then (q_cnt c 1) (fun c => q_flt B k true (q_val B i) c) else q_cnt c 2) := if_pos c5
              rw [hbd] at three
              repeat (first | refine gi_con ?_ | refine gi_bip (Nat.le_of_ble_eq_true rfl) ?_ | refine gi_sip (Nat.le_of_ble_eq_true rfl) ?_ | refine gi_ldc ?_ | refine gi_add ?_ | refine gi_inc rfl ?_ | refine gi_sub (by omega) ?_ | refine gi_mul ?_ | refine go_nx rfl ?_)
              refine go_step ?_
              refine g_callV (by decide) (by decide) (Nat.le_of_ble_eq_true rfl) (Nat.le_of_ble_eq_true rfl) cH_rcv (by omega) (Nat.le_of_ble_eq_true rfl) rfl ?_
              refine sp_cpath (X := fun c => q_flt B k true (q_val B i) c) (u := u) (lev := lev - 1) (stop := q_last B v) (by omega) ha hr hrow hei hok (q_at_box hel.2.1).1 (by omega) hc (fun hcd c2 Q' hc2 hq' => ?_) (fun c1 hc1 => ?_)
              · have hk3 : B i = 3 := by
                  unfold q_cond at hcd
                  simp only [Bool.and_eq_true, decide_eq_true_eq] at hcd
                  exact hcd.1
                exact hsub i idx hil hat hei hk3 true (d - 1 - 1) c2 dep Q' (by omega) hc2 (by omega) hq'
              · refine go_jp rfl ?_
                exact three c1 hc1
          · rw [if_neg hil] at hq
            rw [if_neg hil]
            repeat (first | refine gi_con ?_ | refine gi_bip (Nat.le_of_ble_eq_true rfl) ?_ | refine gi_sip (Nat.le_of_ble_eq_true rfl) ?_ | refine gi_ldc ?_ | refine gi_add ?_ | refine gi_inc rfl ?_ | refine gi_sub (by omega) ?_ | refine gi_mul ?_ | refine go_nx rfl ?_)
            refine gn_nN ?_
            repeat (first | refine gi_con ?_ | refine gi_bip (Nat.le_of_ble_eq_true rfl) ?_ | refine gi_sip (Nat.le_of_ble_eq_true rfl) ?_ | refine gi_ldc ?_ | refine gi_add ?_ | refine gi_inc rfl ?_ | refine gi_sub (by omega) ?_ | refine gi_mul ?_ | refine go_nx rfl ?_)
            refine go_rt rfl ?_
            exact hq c (fun _ => rfl)
      have := loop 2001 (v + 4) 0 c (by omega) g4 hnb hc hq
      repeat (first | refine gi_con ?_ | refine gi_bip (Nat.le_of_ble_eq_true rfl) ?_ | refine gi_sip (Nat.le_of_ble_eq_true rfl) ?_ | refine gi_ldc ?_ | refine gi_add ?_ | refine gi_inc rfl ?_ | refine gi_sub (by omega) ?_ | refine gi_mul ?_ | refine go_nx rfl ?_)
      refine gf_get _ (hww _) (by decide) hw9 ?_
      by_cases hlt : v + 4 < q_last B v
      · rw [if_pos hlt] at this ⊢
        repeat (first | refine gi_con ?_ | refine gi_bip (Nat.le_of_ble_eq_true rfl) ?_ | refine gi_sip (Nat.le_of_ble_eq_true rfl) ?_ | refine gi_ldc ?_ | refine gi_add ?_ | refine gi_inc rfl ?_ | refine gi_sub (by omega) ?_ | refine gi_mul ?_ | refine go_nx rfl ?_)
        refine go_jp rfl ?_
        exact this
      · rw [if_neg hlt] at this ⊢
        repeat (first | refine gi_con ?_ | refine gi_bip (Nat.le_of_ble_eq_true rfl) ?_ | refine gi_sip (Nat.le_of_ble_eq_true rfl) ?_ | refine gi_ldc ?_ | refine gi_add ?_ | refine gi_inc rfl ?_ | refine gi_sub (by omega) ?_ | refine gi_mul ?_ | refine go_nx rfl ?_)
        refine go_jp rfl ?_
        exact this
end C
