/-! THE CLASS: the faults -/
/-- what is known at the end: the fault, and the count if there is none -/
def cEnd (h : mmH) (a : Nat) (Q : Option Value → mmH → Prop) (r : Nat × Nat) : Prop := ∀ c', (r.1 = 0 → c' = r.2) → Q (some (.int (nI r.1))) (cH h a c')
def q_bodyF (B : Nat → Nat) (k : Nat) (e c : Nat) : Nat × Nat :=
  if q_word B e = 0 then (if q_gp B e = false then (3, c) else if q_cond B e = true then q_then (q_cnt c 1) (fun c => q_flt B k true (q_val B e) c) else q_cnt c 2)
  else if q_join B e = false then (1, c) else if B e ≠ 4 ∨ q_sz B (q_val B e) = 5 then (2, c) else q_then (q_cnt c 1) (fun c => q_lp B (q_last B (q_val B e)) (fun i c => if B i = 3 then q_flt B k false (q_val B i) c else (2, c)) 2001 (q_val B e + 4) c)
def q_bodyC (B : Nat → Nat) (k : Nat) (e c : Nat) : Nat × Nat :=
  if q_nof (q_word B e) = 0 then (1, c) else if q_good B e (q_word B e) = false then (4, c) else q_then (q_cnt c 1) (fun c => if q_word B e = 16 then q_flt B k true (q_val B e) c else if q_word B e = 15 then (if q_ofi B e = true then q_flt B k true (q_val B e) c else q_flt B k false (q_val B e) c) else (0, c))
theorem q_flt_F (B : Nat → Nat) (k v c : Nat) : q_flt B (k + 1) false v c = q_lp B (q_last B v) (q_bodyF B k) 2001 (v + 4) c := rfl
theorem q_flt_C (B : Nat → Nat) (k v c : Nat) : q_flt B (k + 1) true v c = q_lp B (q_last B v) (q_bodyC B k) 2001 (v + 4) c := rfl
theorem q_lp_s (B : Nat → Nat) (last : Nat) (body : Nat → Nat → Nat × Nat) (f p c : Nat) : q_lp B last body (f + 1) p c = if p < last then q_then (body p c) (fun c' => q_lp B last body f (q_next B p) c') else (0, c) := rfl
theorem q_le_F (B : Nat → Nat) (k e c : Nat) (hc : c ≤ 100) : q_le1 (q_bodyF B k e c) := by
  unfold q_bodyF
  split
  · split
    · exact q_le_f (by omega)
    · split
      · exact q_le_then q_le_cnt (fun c hc => q_flt_le _ _ _ _ _ hc)
      · exact q_le_cnt
  · split
    · exact q_le_f (by omega)
    · split
      · exact q_le_f (by omega)
      · refine q_le_then q_le_cnt (fun c hc => q_le_lp (fun i c hc => ?_) _ _ _ hc)
        split
        · exact q_flt_le _ _ _ _ _ hc
        · exact q_le_f (by omega)
theorem q_le_C (B : Nat → Nat) (k e c : Nat) (hc : c ≤ 100) : q_le1 (q_bodyC B k e c) := by
  unfold q_bodyC
  split
  · exact q_le_f (by omega)
  · split
    · exact q_le_f (by omega)
    · refine q_le_then q_le_cnt (fun c hc => ?_)
      split
      · exact q_flt_le _ _ _ _ _ hc
      · split
        · split
          · exact q_flt_le _ _ _ _ _ hc
          · exact q_flt_le _ _ _ _ _ hc
        · exact q_le_0 hc
section C
variable {E : mmE} {h : mmH} {row n : Nat} {B N ord : Nat → Nat} {u : Nat → Bool} {a : Nat} {xa : List Value}
theorem cH_nd (ha : h.2.2 a = some (.inr (5, xa))) (c : Nat) : ∀ b x, h.2.2 b = some (.inr (4, x)) → (cH h a c).2.2 b = h.2.2 b := fun b x hb => hs_ne (fun q => by rw [q, ha] at hb; cases hb)
theorem cH_rcv {c : Nat} : mm_rcv E (cH h a c) 6 (some (.ref a)) = true := o_rcv hs_at rfl (by decide)
theorem nx_two (lim x : Nat) : q_nx B N lim x = .null ∨ ∃ z, q_nx B N lim x = .ref z := by
  unfold q_nx
  split
  · exact Or.inr ⟨_, rfl⟩
  · exact Or.inl rfl
theorem sp_cpath {d : Nat} {Q : Option Value → mmH → Prop} {e c lev lim stop dep : Nat} {X : Nat → Nat × Nat} (hd : 3 ≤ d) (ha : h.2.2 a = some (.inr (5, xa))) (hr : bRow h row n B) (hrow : q_row B n) (he : nEl h row B N ord lev lim e) (hok : q_ok B n e) (hbx : B e = 3 → q_box u B lev (q_val B e) stop false = true) (hst : stop ≤ n) (hc : c ≤ 100)
    (hX : q_cond B e = true → ∀ (c : Nat) (Q' : Option Value → mmH → Prop), c ≤ 100 → cEnd h a Q' (X c) → mm_Go E (d - 1) 63 (mm_blk 63 0) [.ref a, .ref (N e), .int (nI dep), mm_un, mm_un] [] (cH h a c) Q')
    (hq : cEnd h a Q (if q_gp B e = false then (3, c) else if q_cond B e = true then q_then (q_cnt c 1) X else q_cnt c 2)) : mm_Go E d 60 (mm_blk 60 0) [.ref a, .ref (N e), .int (nI dep), mm_un] [] (cH h a c) Q := by
  have hn := hrow.1
  have hne := q_ne_is hrow (show e ≤ 2000 by have := hok.1; omega)
  have hnl := hok.2.1
  have hec : ∀ c, nEl (cH h a c) row B N ord lev lim e := fun c => nEl_sub (cH_nd ha c) he
  have hcc : ∀ c, (cH h a c).2.2 (N e) = some (.inr (4, [.ref row, .int (nI (B e)), .int (nI e), .int (nI (q_ne B e)), .int (nI (q_word B e)), .int (nI (q_cls (B e))), .int (q_tf B e), .int (q_tt B e), .long (q_nu B e), q_fi B N e, q_nx B N lim e, .int (nI (ord e))])) := fun c => (hec c).1
  repeat (first | refine gi_con ?_ | refine gi_bip (Nat.le_of_ble_eq_true rfl) ?_ | refine gi_sip (Nat.le_of_ble_eq_true rfl) ?_ | refine gi_ldc ?_ | refine gi_add ?_ | refine gi_inc rfl ?_ | refine gi_sub (by omega) ?_ | refine gi_mul ?_ | refine go_nx rfl ?_)
  refine gf_get _ (hcc _) (by decide) rfl ?_
  repeat (first | refine gi_con ?_ | refine gi_bip (Nat.le_of_ble_eq_true rfl) ?_ | refine gi_sip (Nat.le_of_ble_eq_true rfl) ?_ | refine gi_ldc ?_ | refine gi_add ?_ | refine gi_inc rfl ?_ | refine gi_sub (by omega) ?_ | refine gi_mul ?_ | refine go_nx rfl ?_)
  refine go_step ?_
  refine g_callV (by decide) (by decide) (Nat.le_of_ble_eq_true rfl) (Nat.le_of_ble_eq_true rfl) (o_rcv (hcc _) rfl (by decide)) (by omega) (Nat.le_of_ble_eq_true rfl) rfl ?_
  refine sp_nmFrom (hcc _) rfl ?_
  repeat (first | refine gi_con ?_ | refine gi_bip (Nat.le_of_ble_eq_true rfl) ?_ | refine gi_sip (Nat.le_of_ble_eq_true rfl) ?_ | refine gi_ldc ?_ | refine gi_add ?_ | refine gi_inc rfl ?_ | refine gi_sub (by omega) ?_ | refine gi_mul ?_ | refine go_nx rfl ?_)
  refine gf_get _ (hcc _) (by decide) rfl ?_
  repeat (first | refine gi_con ?_ | refine gi_bip (Nat.le_of_ble_eq_true rfl) ?_ | refine gi_sip (Nat.le_of_ble_eq_true rfl) ?_ | refine gi_ldc ?_ | refine gi_add ?_ | refine gi_inc rfl ?_ | refine gi_sub (by omega) ?_ | refine gi_mul ?_ | refine go_nx rfl ?_)
  refine go_step ?_
  refine g_call (k := 12) rfl (by omega) (Nat.le_of_ble_eq_true rfl) rfl ?_
  refine sp_hasRightSteps (dol := false) (n := n) (by omega) (bRow_set hr ha) (by omega) (by omega) ?_
  refine gt_ne (fun c1 => ?_) (fun c1 => ?_)
  rotate_left
  · have c1 : q_gp B e = false := c1
    rw [c1, if_pos rfl] at hq
    repeat (first | refine gi_con ?_ | refine gi_bip (Nat.le_of_ble_eq_true rfl) ?_ | refine gi_sip (Nat.le_of_ble_eq_true rfl) ?_ | refine gi_ldc ?_ | refine gi_add ?_ | refine gi_inc rfl ?_ | refine gi_sub (by omega) ?_ | refine gi_mul ?_ | refine go_nx rfl ?_)
    refine go_rt rfl ?_
    exact hq c (fun q => by cases q)
  have c1 : q_gp B e = true := c1
  rw [c1, if_neg (by decide)] at hq
  repeat (first | refine gi_con ?_ | refine gi_bip (Nat.le_of_ble_eq_true rfl) ?_ | refine gi_sip (Nat.le_of_ble_eq_true rfl) ?_ | refine gi_ldc ?_ | refine gi_add ?_ | refine gi_inc rfl ?_ | refine gi_sub (by omega) ?_ | refine gi_mul ?_ | refine go_nx rfl ?_)
  refine go_step ?_
  refine g_callV (by decide) (by decide) (Nat.le_of_ble_eq_true rfl) (Nat.le_of_ble_eq_true rfl) (o_rcv (hcc _) rfl (by decide)) (by omega) (Nat.le_of_ble_eq_true rfl) rfl ?_
  refine sp_iscond (hec _) hrow hbx hst ?_
  refine gt_ne (fun c2 => ?_) (fun c2 => ?_)
  rotate_left
  · rw [c2, if_neg (by decide)] at hq
    repeat (first | refine gi_con ?_ | refine gi_bip (Nat.le_of_ble_eq_true rfl) ?_ | refine gi_sip (Nat.le_of_ble_eq_true rfl) ?_ | refine gi_ldc ?_ | refine gi_add ?_ | refine gi_inc rfl ?_ | refine gi_sub (by omega) ?_ | refine gi_mul ?_ | refine go_nx rfl ?_)
    refine go_step ?_
    refine g_callV (by decide) (by decide) (Nat.le_of_ble_eq_true rfl) (Nat.le_of_ble_eq_true rfl) cH_rcv (by omega) (Nat.le_of_ble_eq_true rfl) rfl ?_
    refine sp_count (by omega) (by omega) ?_
    refine go_rt rfl ?_
    refine hq _ (fun q => ?_)
    unfold q_cnt at q ⊢
    split at q
    · cases q
    · rename_i hh
      rw [if_neg hh]
  rw [if_pos c2] at hq
  repeat (first | refine gi_con ?_ | refine gi_bip (Nat.le_of_ble_eq_true rfl) ?_ | refine gi_sip (Nat.le_of_ble_eq_true rfl) ?_ | refine gi_ldc ?_ | refine gi_add ?_ | refine gi_inc rfl ?_ | refine gi_sub (by omega) ?_ | refine gi_mul ?_ | refine go_nx rfl ?_)
  refine go_step ?_
  refine g_callV (by decide) (by decide) (Nat.le_of_ble_eq_true rfl) (Nat.le_of_ble_eq_true rfl) cH_rcv (by omega) (Nat.le_of_ble_eq_true rfl) rfl ?_
  refine sp_count (by omega) (by omega) ?_
  unfold q_then at hq
  by_cases h5 : 100 < c + 1
  · rw [show q_cnt c 1 = (5, c + 1) from if_pos h5] at hq ⊢
    rw [if_neg (show ¬ (5 : Nat) = 0 by decide)] at hq
    repeat (first | refine gi_con ?_ | refine gi_bip (Nat.le_of_ble_eq_true rfl) ?_ | refine gi_sip (Nat.le_of_ble_eq_true rfl) ?_ | refine gi_ldc ?_ | refine gi_add ?_ | refine gi_inc rfl ?_ | refine gi_sub (by omega) ?_ | refine gi_mul ?_ | refine go_nx rfl ?_)
    first | refine gz_eq (by omega) (fun c3 => ?_) (fun c3 => ?_) | refine gz_ne (by omega) (fun c3 => ?_) (fun c3 => ?_) | refine gz_le (by omega) (fun c3 => ?_) (fun c3 => ?_) | refine gz_gt (by omega) (fun c3 => ?_) (fun c3 => ?_) | refine gz_lt (by omega) (fun c3 => ?_) (fun c3 => ?_) | refine gz_ge (by omega) (fun c3 => ?_) (fun c3 => ?_)
    · repeat (first | refine gi_con ?_ | refine gi_bip (Nat.le_of_ble_eq_true rfl) ?_ | refine gi_sip (Nat.le_of_ble_eq_true rfl) ?_ | refine gi_ldc ?_ | refine gi_add ?_ | refine gi_inc rfl ?_ | refine gi_sub (by omega) ?_ | refine gi_mul ?_ | refine go_nx rfl ?_)
      refine go_jp rfl ?_
      refine go_rt rfl ?_
      exact hq _ (fun _ => rfl)
    · cases c3
  · rw [show q_cnt c 1 = (0, c + 1) from if_neg h5] at hq ⊢
    rw [if_pos rfl] at hq
    repeat (first | refine gi_con ?_ | refine gi_bip (Nat.le_of_ble_eq_true rfl) ?_ | refine gi_sip (Nat.le_of_ble_eq_true rfl) ?_ | refine gi_ldc ?_ | refine gi_add ?_ | refine gi_inc rfl ?_ | refine gi_sub (by omega) ?_ | refine gi_mul ?_ | refine go_nx rfl ?_)
    first | refine gz_eq (by omega) (fun c3 => ?_) (fun c3 => ?_) | refine gz_ne (by omega) (fun c3 => ?_) (fun c3 => ?_) | refine gz_le (by omega) (fun c3 => ?_) (fun c3 => ?_) | refine gz_gt (by omega) (fun c3 => ?_) (fun c3 => ?_) | refine gz_lt (by omega) (fun c3 => ?_) (fun c3 => ?_) | refine gz_ge (by omega) (fun c3 => ?_) (fun c3 => ?_)
    · exact absurd c3 (Nat.lt_irrefl 0)
    repeat (first | refine gi_con ?_ | refine gi_bip (Nat.le_of_ble_eq_true rfl) ?_ | refine gi_sip (Nat.le_of_ble_eq_true rfl) ?_ | refine gi_ldc ?_ | refine gi_add ?_ | refine gi_inc rfl ?_ | refine gi_sub (by omega) ?_ | refine gi_mul ?_ | refine go_nx rfl ?_)
    refine go_step ?_
    refine g_callV (by decide) (by decide) (Nat.le_of_ble_eq_true rfl) (Nat.le_of_ble_eq_true rfl) cH_rcv (by omega) (Nat.le_of_ble_eq_true rfl) rfl ?_
    refine hX c2 (c + 1) _ (by omega) (fun c' hc' => ?_)
    refine go_jp rfl ?_
    refine go_rt rfl ?_
    exact hq c' hc'
theorem sp_cjoin {d : Nat} {Q : Option Value → mmH → Prop} {e c lev lim stop dep : Nat} {X : Nat → Nat → Nat × Nat} (hd : 3 ≤ d) (ha : h.2.2 a = some (.inr (5, xa))) (hrow : q_row B n) (he : nEl h row B N ord lev lim e) (hok : q_ok B n e) (hbx : B e = 4 → q_box u B lev (q_val B e) stop true = true) (hst : stop ≤ n) (hc : c ≤ 100) (hdp : dep ≤ 16)
    (hX1 : ∀ i c, c ≤ 100 → q_le1 (X i c))
    (hX : ∀ (i idx c : Nat) (Q' : Option Value → mmH → Prop), B e = 4 → B i = 3 → i < q_last B (q_val B e) → q_at u (lev - 1) B true (q_last B (q_val B e)) i idx → nEl h row B N ord (lev - 1) (q_last B (q_val B e)) i → c ≤ 100 → cEnd h a Q' (X i c) → mm_Go E (d - 1) 59 (mm_blk 59 0) [.ref a, .ref (N i), .int (nI (dep + 1)), mm_un, mm_un] [] (cH h a c) Q')
    (hq : cEnd h a Q (if q_join B e = false then (1, c) else if B e ≠ 4 ∨ q_sz B (q_val B e) = 5 then (2, c) else q_then (q_cnt c 1) (fun c => q_lp B (q_last B (q_val B e)) (fun i c => if B i = 3 then X i c else (2, c)) 2001 (q_val B e + 4) c))) : mm_Go E d 68 (mm_blk 68 0) [.ref a, .ref (N e), .int (nI dep), mm_un, mm_un] [] (cH h a c) Q := by
  have hn := hrow.1
  have hB := hrow.2.1
  have hec : ∀ c, nEl (cH h a c) row B N ord lev lim e := fun c => nEl_sub (cH_nd ha c) he
  have hcc : ∀ c, (cH h a c).2.2 (N e) = some (.inr (4, [.ref row, .int (nI (B e)), .int (nI e), .int (nI (q_ne B e)), .int (nI (q_word B e)), .int (nI (q_cls (B e))), .int (q_tf B e), .int (q_tt B e), .long (q_nu B e), q_fi B N e, q_nx B N lim e, .int (nI (ord e))])) := fun c => (hec c).1
  have hBe := hB e
  repeat (first | refine gi_con ?_ | refine gi_bip (Nat.le_of_ble_eq_true rfl) ?_ | refine gi_sip (Nat.le_of_ble_eq_true rfl) ?_ | refine gi_ldc ?_ | refine gi_add ?_ | refine gi_inc rfl ?_ | refine gi_sub (by omega) ?_ | refine gi_mul ?_ | refine go_nx rfl ?_)
  refine go_step ?_
  refine g_callV (by decide) (by decide) (Nat.le_of_ble_eq_true rfl) (Nat.le_of_ble_eq_true rfl) (o_rcv (hcc _) rfl (by decide)) (by omega) (Nat.le_of_ble_eq_true rfl) rfl ?_
  refine sp_joins (hcc _) rfl ?_
  refine gt_ne (fun c1 => ?_) (fun c1 => ?_)
  rotate_left
  · rw [c1, if_pos rfl] at hq
    repeat (first | refine gi_con ?_ | refine gi_bip (Nat.le_of_ble_eq_true rfl) ?_ | refine gi_sip (Nat.le_of_ble_eq_true rfl) ?_ | refine gi_ldc ?_ | refine gi_add ?_ | refine gi_inc rfl ?_ | refine gi_sub (by omega) ?_ | refine gi_mul ?_ | refine go_nx rfl ?_)
    refine go_rt rfl ?_
    exact hq c (fun q => by cases q)
  rw [c1, if_neg (by decide)] at hq
  have two : (B e ≠ 4 ∨ q_sz B (q_val B e) = 5) → mm_Go E d 68 (mm_blk 68 2) [.ref a, .ref (N e), .int (nI dep), mm_un, mm_un] [] (cH h a c) Q := by
    intro h2
    rw [if_pos h2] at hq
    repeat (first | refine gi_con ?_ | refine gi_bip (Nat.le_of_ble_eq_true rfl) ?_ | refine gi_sip (Nat.le_of_ble_eq_true rfl) ?_ | refine gi_ldc ?_ | refine gi_add ?_ | refine gi_inc rfl ?_ | refine gi_sub (by omega) ?_ | refine gi_mul ?_ | refine go_nx rfl ?_)
    refine go_rt rfl ?_
    exact hq c (fun q => by cases q)
  repeat (first | refine gi_con ?_ | refine gi_bip (Nat.le_of_ble_eq_true rfl) ?_ | refine gi_sip (Nat.le_of_ble_eq_true rfl) ?_ | refine gi_ldc ?_ | refine gi_add ?_ | refine gi_inc rfl ?_ | refine gi_sub (by omega) ?_ | refine gi_mul ?_ | refine go_nx rfl ?_)
  refine gf_get _ (hcc _) (by decide) rfl ?_
  repeat (first | refine gi_con ?_ | refine gi_bip (Nat.le_of_ble_eq_true rfl) ?_ | refine gi_sip (Nat.le_of_ble_eq_true rfl) ?_ | refine gi_ldc ?_ | refine gi_add ?_ | refine gi_inc rfl ?_ | refine gi_sub (by omega) ?_ | refine gi_mul ?_ | refine go_nx rfl ?_)
  first | refine gb_lt (by omega) (by omega) (fun c2 => ?_) (fun c2 => ?_) | refine gb_ge (by omega) (by omega) (fun c2 => ?_) (fun c2 => ?_) | refine gb_gt (by omega) (by omega) (fun c2 => ?_) (fun c2 => ?_) | refine gb_le (by omega) (by omega) (fun c2 => ?_) (fun c2 => ?_) | refine gb_eq (by omega) (by omega) (fun c2 => ?_) (fun c2 => ?_) | refine gb_ne (by omega) (by omega) (fun c2 => ?_) (fun c2 => ?_)
  · exact two (Or.inl c2)
  have hb := hbx c2
  have hbl := q_box_le hb
  repeat (first | refine gi_con ?_ | refine gi_bip (Nat.le_of_ble_eq_true rfl) ?_ | refine gi_sip (Nat.le_of_ble_eq_true rfl) ?_ | refine gi_ldc ?_ | refine gi_add ?_ | refine gi_inc rfl ?_ | refine gi_sub (by omega) ?_ | refine gi_mul ?_ | refine go_nx rfl ?_)
  refine gf_get _ (hcc _) (by decide) rfl ?_
  by_cases hlt : q_val B e + 4 < q_last B (q_val B e)
  rotate_left
  · rw [q_fi_0 hlt]
    refine gn_nN ?_
    exact two (Or.inr (by unfold q_last at hlt; omega))
  have hlt2 : 5 < q_sz B (q_val B e) := by unfold q_last at hlt; omega
  rw [if_neg (by omega)] at hq
  rw [q_fi_1 (Or.inr c2) hlt]
  refine gn_nR ?_
  repeat (first | refine gi_con ?_ | refine gi_bip (Nat.le_of_ble_eq_true rfl) ?_ | refine gi_sip (Nat.le_of_ble_eq_true rfl) ?_ | refine gi_ldc ?_ | refine gi_add ?_ | refine gi_inc rfl ?_ | refine gi_sub (by omega) ?_ | refine gi_mul ?_ | refine go_nx rfl ?_)
  first | refine gb_lt (by omega) (by omega) (fun c3 => ?_) (fun c3 => ?_) | refine gb_ge (by omega) (by omega) (fun c3 => ?_) (fun c3 => ?_) | refine gb_gt (by omega) (by omega) (fun c3 => ?_) (fun c3 => ?_) | refine gb_le (by omega) (by omega) (fun c3 => ?_) (fun c3 => ?_) | refine gb_eq (by omega) (by omega) (fun c3 => ?_) (fun c3 => ?_) | refine gb_ne (by omega) (by omega) (fun c3 => ?_) (fun c3 => ?_)
  rotate_left
  · omega
  repeat (first | refine gi_con ?_ | refine gi_bip (Nat.le_of_ble_eq_true rfl) ?_ | refine gi_sip (Nat.le_of_ble_eq_true rfl) ?_ | refine gi_ldc ?_ | refine gi_add ?_ | refine gi_inc rfl ?_ | refine gi_sub (by omega) ?_ | refine gi_mul ?_ | refine go_nx rfl ?_)
  refine go_step ?_
  refine g_callV (by decide) (by decide) (Nat.le_of_ble_eq_true rfl) (Nat.le_of_ble_eq_true rfl) cH_rcv (by omega) (Nat.le_of_ble_eq_true rfl) rfl ?_
  refine sp_count (by omega) (by omega) ?_
  repeat (first | refine gi_con ?_ | refine gi_bip (Nat.le_of_ble_eq_true rfl) ?_ | refine gi_sip (Nat.le_of_ble_eq_true rfl) ?_ | refine gi_ldc ?_ | refine gi_add ?_ | refine gi_inc rfl ?_ | refine gi_sub (by omega) ?_ | refine gi_mul ?_ | refine go_nx rfl ?_)
  refine gf_get _ (hcc _) (by decide) rfl ?_
  rw [q_fi_1 (Or.inr c2) hlt]
  have gone : ∀ (f c1 : Nat) (cur : Value), 0 < f → f < 100 → (cur = .null ∨ ∃ z, cur = .ref z) → Q (some (.int (nI f))) (cH h a c1) → mm_Go E d 68 (mm_blk 68 4) [.ref a, .ref (N e), .int (nI dep), .int (nI f), cur] [] (cH h a c1) Q := by
    intro f c1 cur h1 h2 h3 hq
    rcases h3 with h3 | ⟨z, h3⟩
    · subst h3
      repeat (first | refine gi_con ?_ | refine gi_bip (Nat.le_of_ble_eq_true rfl) ?_ | refine gi_sip (Nat.le_of_ble_eq_true rfl) ?_ | refine gi_ldc ?_ | refine gi_add ?_ | refine gi_inc rfl ?_ | refine gi_sub (by omega) ?_ | refine gi_mul ?_ | refine go_nx rfl ?_)
      refine gn_nN ?_
      repeat (first | refine gi_con ?_ | refine gi_bip (Nat.le_of_ble_eq_true rfl) ?_ | refine gi_sip (Nat.le_of_ble_eq_true rfl) ?_ | refine gi_ldc ?_ | refine gi_add ?_ | refine gi_inc rfl ?_ | refine gi_sub (by omega) ?_ | refine gi_mul ?_ | refine go_nx rfl ?_)
      refine go_rt rfl ?_
      exact hq
    · subst h3
      repeat (first | refine gi_con ?_ | refine gi_bip (Nat.le_of_ble_eq_true rfl) ?_ | refine gi_sip (Nat.le_of_ble_eq_true rfl) ?_ | refine gi_ldc ?_ | refine gi_add ?_ | refine gi_inc rfl ?_ | refine gi_sub (by omega) ?_ | refine gi_mul ?_ | refine go_nx rfl ?_)
      refine gn_nR ?_
      repeat (first | refine gi_con ?_ | refine gi_bip (Nat.le_of_ble_eq_true rfl) ?_ | refine gi_sip (Nat.le_of_ble_eq_true rfl) ?_ | refine gi_ldc ?_ | refine gi_add ?_ | refine gi_inc rfl ?_ | refine gi_sub (by omega) ?_ | refine gi_mul ?_ | refine go_nx rfl ?_)
      first | refine gz_eq (by omega) (fun c4 => ?_) (fun c4 => ?_) | refine gz_ne (by omega) (fun c4 => ?_) (fun c4 => ?_) | refine gz_le (by omega) (fun c4 => ?_) (fun c4 => ?_) | refine gz_gt (by omega) (fun c4 => ?_) (fun c4 => ?_) | refine gz_lt (by omega) (fun c4 => ?_) (fun c4 => ?_) | refine gz_ge (by omega) (fun c4 => ?_) (fun c4 => ?_)
      · repeat (first | refine gi_con ?_ | refine gi_bip (Nat.le_of_ble_eq_true rfl) ?_ | refine gi_sip (Nat.le_of_ble_eq_true rfl) ?_ | refine gi_ldc ?_ | refine gi_add ?_ | refine gi_inc rfl ?_ | refine gi_sub (by omega) ?_ | refine gi_mul ?_ | refine go_nx rfl ?_)
        refine go_rt rfl ?_
        exact hq
      · omega
  have loop : ∀ (f i idx c : Nat), q_last B (q_val B e) < f + i → q_at u (lev - 1) B true (q_last B (q_val B e)) i idx → (∀ x ∈ q_els B (q_last B (q_val B e)) f i, nEl h row B N ord (lev - 1) (q_last B (q_val B e)) x) → c ≤ 100 → cEnd h a Q (q_lp B (q_last B (q_val B e)) (fun i c => if B i = 3 then X i c else (2, c)) f i c) → mm_Go E d 68 (mm_blk 68 4) [.ref a, .ref (N e), .int (nI dep), .int (nI 0), if i < q_last B (q_val B e) then .ref (N i) else .null] [] (cH h a c) Q := by
    intro f
    induction f with
    | zero =>
      intro i idx c hf hat
      have := q_at_le hat
      omega
    | succ f ihf =>
      intro i idx c hf hat hels hc hq
      rw [q_lp_s] at hq
      by_cases hil : i < q_last B (q_val B e)
      · rw [if_pos hil] at hq
        rw [q_els_s, if_pos hil] at hels
        rw [if_pos hil]
        have hel := q_at_el hat hil
        have hei := hels i List.mem_cons_self
        have hci : ∀ c, (cH h a c).2.2 (N i) = some (.inr (4, [.ref row, .int (nI (B i)), .int (nI i), .int (nI (q_ne B i)), .int (nI (q_word B i)), .int (nI (q_cls (B i))), .int (q_tf B i), .int (q_tt B i), .long (q_nu B i), q_fi B N i, q_nx B N (q_last B (q_val B e)) i, .int (nI (ord i))])) := fun c => (nEl_sub (cH_nd ha c) hei).1
        have hBi := hB i
        have hnxi : i < q_next B i := by
          have := q_val_ge B i
          unfold q_next
          omega
        have six : ∀ (r : Nat × Nat) (c1 : Nat), q_le1 r → (r.1 = 0 → c1 = r.2) → cEnd h a Q (q_then r (fun c' => q_lp B (q_last B (q_val B e)) (fun i c => if B i = 3 then X i c else (2, c)) f (q_next B i) c')) → mm_Go E d 68 (mm_blk 68 6) [.ref a, .ref (N e), .int (nI dep), .int (nI 0), .ref (N i)] [.int (nI r.1)] (cH h a c1) Q := by
          intro r c1 hr1 hr2 hq
          unfold q_then at hq
          have hr5 := hr1.1
          repeat (first | refine gi_con ?_ | refine gi_bip (Nat.le_of_ble_eq_true rfl) ?_ | refine gi_sip (Nat.le_of_ble_eq_true rfl) ?_ | refine gi_ldc ?_ | refine gi_add ?_ | refine gi_inc rfl ?_ | refine gi_sub (by omega) ?_ | refine gi_mul ?_ | refine go_nx rfl ?_)
          refine gf_get _ (hci _) (by decide) rfl ?_
          have fin : ∀ cur : Value, cur = q_nx B N (q_last B (q_val B e)) i → mm_Go E d 68 (mm_blk 68 4) [.ref a, .ref (N e), .int (nI dep), .int (nI r.1), cur] [] (cH h a c1) Q := by
            intro cur hcur
            by_cases h0 : r.1 = 0
            · rw [if_pos h0] at hq
              rw [h0, hr2 h0, hcur]
              exact ihf (q_next B i) (idx + 1) r.2 (by omega) hel.2.2.2.2 (fun x hx => hels x (List.mem_cons_of_mem _ hx)) (hr1.2 h0) hq
            · rw [if_neg h0] at hq
              exact gone r.1 c1 cur (by omega) (by omega) (by rw [hcur]; exact nx_two _ _) (hq c1 hr2)
          rcases nx_two (B := B) (N := N) (q_last B (q_val B e)) i with h3 | ⟨z, h3⟩
          · rw [h3]
            repeat (first | refine gi_con ?_ | refine gi_bip (Nat.le_of_ble_eq_true rfl) ?_ | refine gi_sip (Nat.le_of_ble_eq_true rfl) ?_ | refine gi_ldc ?_ | refine gi_add ?_ | refine gi_inc rfl ?_ | refine gi_sub (by omega) ?_ | refine gi_mul ?_ | refine go_nx rfl ?_)
            refine go_jp rfl ?_
            exact fin _ h3.symm
          · rw [h3]
            repeat (first | refine gi_con ?_ | refine gi_bip (Nat.le_of_ble_eq_true rfl) ?_ | refine gi_sip (Nat.le_of_ble_eq_true rfl) ?_ | refine gi_ldc ?_ | refine gi_add ?_ | refine gi_inc rfl ?_ | refine gi_sub (by omega) ?_ | refine gi_mul ?_ | refine go_nx rfl ?_)
            refine go_jp rfl ?_
            exact fin _ h3.symm
        repeat (first | refine gi_con ?_ | refine gi_bip (Nat.le_of_ble_eq_true rfl) ?_ | refine gi_sip (Nat.le_of_ble_eq_true rfl) ?_ | refine gi_ldc ?_ | refine gi_add ?_ | refine gi_inc rfl ?_ | refine gi_sub (by omega) ?_ | refine gi_mul ?_ | refine go_nx rfl ?_)
        refine gn_nR ?_
        repeat (first | refine gi_con ?_ | refine gi_bip (Nat.le_of_ble_eq_true rfl) ?_ | refine gi_sip (Nat.le_of_ble_eq_true rfl) ?_ | refine gi_ldc ?_ | refine gi_add ?_ | refine gi_inc rfl ?_ | refine gi_sub (by omega) ?_ | refine gi_mul ?_ | refine go_nx rfl ?_)
        first | refine gz_eq (by omega) (fun c4 => ?_) (fun c4 => ?_) | refine gz_ne (by omega) (fun c4 => ?_) (fun c4 => ?_) | refine gz_le (by omega) (fun c4 => ?_) (fun c4 => ?_) | refine gz_gt (by omega) (fun c4 => ?_) (fun c4 => ?_) | refine gz_lt (by omega) (fun c4 => ?_) (fun c4 => ?_) | refine gz_ge (by omega) (fun c4 => ?_) (fun c4 => ?_)
        · exact absurd c4 (by decide)
        repeat (first | refine gi_con ?_ | refine gi_bip (Nat.le_of_ble_eq_true rfl) ?_ | refine gi_sip (Nat.le_of_ble_eq_true rfl) ?_ | refine gi_ldc ?_ | refine gi_add ?_ | refine gi_inc rfl ?_ | refine gi_sub (by omega) ?_ | refine gi_mul ?_ | refine go_nx rfl ?_)
        refine gf_get _ (hci _) (by decide) rfl ?_
        repeat (first | refine gi_con ?_ | refine gi_bip (Nat.le_of_ble_eq_true rfl) ?_ | refine gi_sip (Nat.le_of_ble_eq_true rfl) ?_ | refine gi_ldc ?_ | refine gi_add ?_ | refine gi_inc rfl ?_ | refine gi_sub (by omega) ?_ | refine gi_mul ?_ | refine go_nx rfl ?_)
        first | refine gb_lt (by omega) (by omega) (fun c5 => ?_) (fun c5 => ?_) | refine gb_ge (by omega) (by omega) (fun c5 => ?_) (fun c5 => ?_) | refine gb_gt (by omega) (by omega) (fun c5 => ?_) (fun c5 => ?_) | refine gb_le (by omega) (by omega) (fun c5 => ?_) (fun c5 => ?_) | refine gb_eq (by omega) (by omega) (fun c5 => ?_) (fun c5 => ?_) | refine gb_ne (by omega) (by omega) (fun c5 => ?_) (fun c5 => ?_)
        · rw [if_neg c5] at hq
          repeat (first | refine gi_con ?_ | refine gi_bip (Nat.le_of_ble_eq_true rfl) ?_ | refine gi_sip (Nat.le_of_ble_eq_true rfl) ?_ | refine gi_ldc ?_ | refine gi_add ?_ | refine gi_inc rfl ?_ | refine gi_sub (by omega) ?_ | refine gi_mul ?_ | refine go_nx rfl ?_)
          refine go_jp rfl ?_
          exact six (2, c) c (q_le_f (by omega)) (fun q => by cases q) hq
        · rw [if_pos c5] at hq
          repeat (first | refine gi_con ?_ | refine gi_bip (Nat.le_of_ble_eq_true rfl) ?_ | refine gi_sip (Nat.le_of_ble_eq_true rfl) ?_ | refine gi_ldc ?_ | refine gi_add ?_ | refine gi_inc rfl ?_ | refine gi_sub (by omega) ?_ | refine gi_mul ?_ | refine go_nx rfl ?_)
          refine go_step ?_
          refine g_callV (by decide) (by decide) (Nat.le_of_ble_eq_true rfl) (Nat.le_of_ble_eq_true rfl) cH_rcv (by omega) (Nat.le_of_ble_eq_true rfl) rfl ?_
          refine hX i idx c _ c2 c5 hil hat hei hc (fun c1 hc1 => ?_)
          refine go_jp rfl ?_
          exact six _ c1 (hX1 i c hc) hc1 hq
      · rw [if_neg hil] at hq
        rw [if_neg hil]
        repeat (first | refine gi_con ?_ | refine gi_bip (Nat.le_of_ble_eq_true rfl) ?_ | refine gi_sip (Nat.le_of_ble_eq_true rfl) ?_ | refine gi_ldc ?_ | refine gi_add ?_ | refine gi_inc rfl ?_ | refine gi_sub (by omega) ?_ | refine gi_mul ?_ | refine go_nx rfl ?_)
        refine gn_nN ?_
        repeat (first | refine gi_con ?_ | refine gi_bip (Nat.le_of_ble_eq_true rfl) ?_ | refine gi_sip (Nat.le_of_ble_eq_true rfl) ?_ | refine gi_ldc ?_ | refine gi_add ?_ | refine gi_inc rfl ?_ | refine gi_sub (by omega) ?_ | refine gi_mul ?_ | refine go_nx rfl ?_)
        refine go_rt rfl ?_
        exact hq c (fun _ => rfl)
  unfold q_then at hq
  by_cases h5 : 100 < c + 1
  · rw [show q_cnt c 1 = (5, c + 1) from if_pos h5] at hq ⊢
    rw [if_neg (show ¬ (5 : Nat) = 0 by decide)] at hq
    repeat (first | refine gi_con ?_ | refine gi_bip (Nat.le_of_ble_eq_true rfl) ?_ | refine gi_sip (Nat.le_of_ble_eq_true rfl) ?_ | refine gi_ldc ?_ | refine gi_add ?_ | refine gi_inc rfl ?_ | refine gi_sub (by omega) ?_ | refine gi_mul ?_ | refine go_nx rfl ?_)
    refine go_jp rfl ?_
    exact gone 5 _ _ (by omega) (by omega) (Or.inr ⟨_, rfl⟩) (hq _ (fun _ => rfl))
  · rw [show q_cnt c 1 = (0, c + 1) from if_neg h5] at hq ⊢
    rw [if_pos rfl] at hq
    have hlev : lev = lev - 1 + 1 := by have := q_box_pos hb; omega
    rw [hlev] at hb
    obtain ⟨g1, g2, g3, g4⟩ := q_box_at hb
    have hbn := he.2 (Or.inr c2)
    rw [hlev, nBox_s] at hbn
    have := loop 2001 (q_val B e + 4) 0 (c + 1) (by unfold q_last; omega) g4 hbn (by omega) hq
    rw [if_pos hlt] at this
    repeat (first | refine gi_con ?_ | refine gi_bip (Nat.le_of_ble_eq_true rfl) ?_ | refine gi_sip (Nat.le_of_ble_eq_true rfl) ?_ | refine gi_ldc ?_ | refine gi_add ?_ | refine gi_inc rfl ?_ | refine gi_sub (by omega) ?_ | refine gi_mul ?_ | refine go_nx rfl ?_)
    refine go_jp rfl ?_
    exact this
end C
