/-! THE CLASS: words, nodes, rows -/
/-- the constants of the words -/
def sStr (E : mmE) : Prop := ∀ j, j < 15 → ∃ s, E.2.1 (10 + j) = .ref s ∧ strAt E s (q_wl.getD j []).length (fun i => (q_wl.getD j []).getD i 0)
theorem q_word_le (B : Nat → Nat) (p : Nat) : q_word B p ≤ 16 := by
  unfold q_word
  split
  · omega
  · split
    · rename_i j hj
      obtain ⟨h1, -⟩ := List.findIdx?_eq_some_iff_getElem.mp hj
      have : q_wl.length = 15 := rfl
      omega
    · omega
section C
variable {E : mmE} {d : Nat} {h : mmH} {Q : Option Value → mmH → Prop}
theorem sp_wordOf {a n p : Nat} {B : Nat → Nat} (hd : 5 ≤ d) (hS : sStr E) (hk : hOk E h) (ha : bRow h a n B) (hp : p + 1 ≤ q_ne B p) (hne : q_ne B p ≤ 2000) (hq : Q (some (.int (nI (q_word B p)))) h) : mm_Go E d 27 (mm_blk 27 0) [.ref a, .int (nI (p + 1)), .int (nI (q_ne B p))] [] h Q := by
  have hB := ha.2.2.1 (p + 1)
  have one : q_word B p = 0 → mm_Go E d 27 (mm_blk 27 1) [.ref a, .int (nI (p + 1)), .int (nI (q_ne B p))] [] h Q := by
    intro e
    rw [e] at hq
    repeat (first | refine gi_con ?_ | refine gi_bip (Nat.le_of_ble_eq_true rfl) ?_ | refine gi_sip (Nat.le_of_ble_eq_true rfl) ?_ | refine gi_ldc ?_ | refine gi_add ?_ | refine gi_inc rfl ?_ | refine gi_sub (by omega) ?_ | refine gi_mul ?_ | refine go_nx rfl ?_)
    refine go_rt rfl ?_
    exact hq
  have call : ∀ (j s : Nat) (Q' : Option Value → mmH → Prop), j < 15 → E.2.1 (10 + j) = .ref s → strAt E s (q_wl.getD j []).length (fun i => (q_wl.getD j []).getD i 0) → Q' (some (.int (q_t (decide (q_word B p = j + 2))))) h → mm_Go E (d - 1) 28 (mm_blk 28 0) [.ref a, .int (nI (p + 1)), .int (nI (q_ne B p)), .ref s, mm_un] [] h Q' := by
    intro j s Q' hj _ hs hq'
    refine sp_isWord (by omega) (hOk_old hk) ha hs (fun i hi => ?_) hp hne ?_
    · obtain ⟨h1, -⟩ := q_wl_ok j hj
      rw [List.getD_eq_getElem?_getD, List.getElem?_eq_getElem hi]
      exact (h1 _ (List.getElem_mem hi)).2
    · rw [← q_isn_word j hj] at hq'
      exact hq'
  repeat (first | refine gi_con ?_ | refine gi_bip (Nat.le_of_ble_eq_true rfl) ?_ | refine gi_sip (Nat.le_of_ble_eq_true rfl) ?_ | refine gi_ldc ?_ | refine gi_add ?_ | refine gi_inc rfl ?_ | refine gi_sub (by omega) ?_ | refine gi_mul ?_ | refine go_nx rfl ?_)
  first | refine gb_lt (by omega) (by omega) (fun b0 => ?_) (fun b0 => ?_) | refine gb_ge (by omega) (by omega) (fun b0 => ?_) (fun b0 => ?_) | refine gb_gt (by omega) (by omega) (fun b0 => ?_) (fun b0 => ?_) | refine gb_le (by omega) (by omega) (fun b0 => ?_) (fun b0 => ?_) | refine gb_eq (by omega) (by omega) (fun b0 => ?_) (fun b0 => ?_) | refine gb_ne (by omega) (by omega) (fun b0 => ?_) (fun b0 => ?_)
  · exact one (by unfold q_word; rw [if_pos (Or.inl (by omega))])
  repeat (first | refine gi_con ?_ | refine gi_bip (Nat.le_of_ble_eq_true rfl) ?_ | refine gi_sip (Nat.le_of_ble_eq_true rfl) ?_ | refine gi_ldc ?_ | refine gi_add ?_ | refine gi_inc rfl ?_ | refine gi_sub (by omega) ?_ | refine gi_mul ?_ | refine go_nx rfl ?_)
  refine go_step ?_
  refine g_call (k := 11) rfl (by omega) (Nat.le_of_ble_eq_true rfl) rfl ?_
  refine sp_atN ha (by omega) ?_
  repeat (first | refine gi_con ?_ | refine gi_bip (Nat.le_of_ble_eq_true rfl) ?_ | refine gi_sip (Nat.le_of_ble_eq_true rfl) ?_ | refine gi_ldc ?_ | refine gi_add ?_ | refine gi_inc rfl ?_ | refine gi_sub (by omega) ?_ | refine gi_mul ?_ | refine go_nx rfl ?_)
  first | refine gb_lt (by omega) (by omega) (fun b1 => ?_) (fun b1 => ?_) | refine gb_ge (by omega) (by omega) (fun b1 => ?_) (fun b1 => ?_) | refine gb_gt (by omega) (by omega) (fun b1 => ?_) (fun b1 => ?_) | refine gb_le (by omega) (by omega) (fun b1 => ?_) (fun b1 => ?_) | refine gb_eq (by omega) (by omega) (fun b1 => ?_) (fun b1 => ?_) | refine gb_ne (by omega) (by omega) (fun b1 => ?_) (fun b1 => ?_)
  rotate_left
  · refine go_jp rfl ?_
    exact one (by unfold q_word; rw [if_pos (Or.inr b1)])
  have hn0 : q_word B p ≠ 0 := by
    unfold q_word
    rw [if_neg (fun q => q.elim (by omega) (fun q => q b1))]
    split <;> omega
  obtain ⟨s0, e0, t0⟩ := hS 0 (by omega)
  repeat (first | refine gi_con ?_ | refine gi_bip (Nat.le_of_ble_eq_true rfl) ?_ | refine gi_sip (Nat.le_of_ble_eq_true rfl) ?_ | refine gi_ldc ?_ | refine gi_add ?_ | refine gi_inc rfl ?_ | refine gi_sub (by omega) ?_ | refine gi_mul ?_ | refine go_nx rfl ?_)
  show mm_Go E d 27 _ _ (E.2.1 (10 + 0) :: _) h Q
  rw [e0]
  refine go_step ?_
  refine g_call (k := 28) rfl (by omega) (Nat.le_of_ble_eq_true rfl) rfl ?_
  refine call 0 s0 _ (by omega) e0 t0 ?_
  repeat (first | refine gi_con ?_ | refine gi_bip (Nat.le_of_ble_eq_true rfl) ?_ | refine gi_sip (Nat.le_of_ble_eq_true rfl) ?_ | refine gi_ldc ?_ | refine gi_add ?_ | refine gi_inc rfl ?_ | refine gi_sub (by omega) ?_ | refine gi_mul ?_ | refine go_nx rfl ?_)
  refine gt_eq (fun c0 => ?_) (fun c0 => ?_)
  rotate_left
  · rw [of_decide_eq_true c0] at hq
    repeat (first | refine gi_con ?_ | refine gi_bip (Nat.le_of_ble_eq_true rfl) ?_ | refine gi_sip (Nat.le_of_ble_eq_true rfl) ?_ | refine gi_ldc ?_ | refine gi_add ?_ | refine gi_inc rfl ?_ | refine gi_sub (by omega) ?_ | refine gi_mul ?_ | refine go_nx rfl ?_)
    refine go_rt rfl ?_
    exact hq
  obtain ⟨s1, e1, t1⟩ := hS 1 (by omega)
  repeat (first | refine gi_con ?_ | refine gi_bip (Nat.le_of_ble_eq_true rfl) ?_ | refine gi_sip (Nat.le_of_ble_eq_true rfl) ?_ | refine gi_ldc ?_ | refine gi_add ?_ | refine gi_inc rfl ?_ | refine gi_sub (by omega) ?_ | refine gi_mul ?_ | refine go_nx rfl ?_)
  show mm_Go E d 27 _ _ (E.2.1 (10 + 1) :: _) h Q
  rw [e1]
  refine go_step ?_
  refine g_call (k := 28) rfl (by omega) (Nat.le_of_ble_eq_true rfl) rfl ?_
  refine call 1 s1 _ (by omega) e1 t1 ?_
  repeat (first | refine gi_con ?_ | refine gi_bip (Nat.le_of_ble_eq_true rfl) ?_ | refine gi_sip (Nat.le_of_ble_eq_true rfl) ?_ | refine gi_ldc ?_ | refine gi_add ?_ | refine gi_inc rfl ?_ | refine gi_sub (by omega) ?_ | refine gi_mul ?_ | refine go_nx rfl ?_)
  refine gt_eq (fun c1 => ?_) (fun c1 => ?_)
  rotate_left
  · rw [of_decide_eq_true c1] at hq
    repeat (first | refine gi_con ?_ | refine gi_bip (Nat.le_of_ble_eq_true rfl) ?_ | refine gi_sip (Nat.le_of_ble_eq_true rfl) ?_ | refine gi_ldc ?_ | refine gi_add ?_ | refine gi_inc rfl ?_ | refine gi_sub (by omega) ?_ | refine gi_mul ?_ | refine go_nx rfl ?_)
    refine go_rt rfl ?_
    exact hq
  obtain ⟨s2, e2, t2⟩ := hS 2 (by omega)
  repeat (first | refine gi_con ?_ | refine gi_bip (Nat.le_of_ble_eq_true rfl) ?_ | refine gi_sip (Nat.le_of_ble_eq_true rfl) ?_ | refine gi_ldc ?_ | refine gi_add ?_ | refine gi_inc rfl ?_ | refine gi_sub (by omega) ?_ | refine gi_mul ?_ | refine go_nx rfl ?_)
  show mm_Go E d 27 _ _ (E.2.1 (10 + 2) :: _) h Q
  rw [e2]
  refine go_step ?_
  refine g_call (k := 28) rfl (by omega) (Nat.le_of_ble_eq_true rfl) rfl ?_
  refine call 2 s2 _ (by omega) e2 t2 ?_
  repeat (first | refine gi_con ?_ | refine gi_bip (Nat.le_of_ble_eq_true rfl) ?_ | refine gi_sip (Nat.le_of_ble_eq_true rfl) ?_ | refine gi_ldc ?_ | refine gi_add ?_ | refine gi_inc rfl ?_ | refine gi_sub (by omega) ?_ | refine gi_mul ?_ | refine go_nx rfl ?_)
  refine gt_eq (fun c2 => ?_) (fun c2 => ?_)
  rotate_left
  · rw [of_decide_eq_true c2] at hq
    repeat (first | refine gi_con ?_ | refine gi_bip (Nat.le_of_ble_eq_true rfl) ?_ | refine gi_sip (Nat.le_of_ble_eq_true rfl) ?_ | refine gi_ldc ?_ | refine gi_add ?_ | refine gi_inc rfl ?_ | refine gi_sub (by omega) ?_ | refine gi_mul ?_ | refine go_nx rfl ?_)
    refine go_rt rfl ?_
    exact hq
  obtain ⟨s3, e3, t3⟩ := hS 3 (by omega)
  repeat (first | refine gi_con ?_ | refine gi_bip (Nat.le_of_ble_eq_true rfl) ?_ | refine gi_sip (Nat.le_of_ble_eq_true rfl) ?_ | refine gi_ldc ?_ | refine gi_add ?_ | refine gi_inc rfl ?_ | refine gi_sub (by omega) ?_ | refine gi_mul ?_ | refine go_nx rfl ?_)
  show mm_Go E d 27 _ _ (E.2.1 (10 + 3) :: _) h Q
  rw [e3]
  refine go_step ?_
  refine g_call (k := 28) rfl (by omega) (Nat.le_of_ble_eq_true rfl) rfl ?_
  refine call 3 s3 _ (by omega) e3 t3 ?_
  repeat (first | refine gi_con ?_ | refine gi_bip (Nat.le_of_ble_eq_true rfl) ?_ | refine gi_sip (Nat.le_of_ble_eq_true rfl) ?_ | refine gi_ldc ?_ | refine gi_add ?_ | refine gi_inc rfl ?_ | refine gi_sub (by omega) ?_ | refine gi_mul ?_ | refine go_nx rfl ?_)
  refine gt_eq (fun c3 => ?_) (fun c3 => ?_)
  rotate_left
  · rw [of_decide_eq_true c3] at hq
    repeat (first | refine gi_con ?_ | refine gi_bip (Nat.le_of_ble_eq_true rfl) ?_ | refine gi_sip (Nat.le_of_ble_eq_true rfl) ?_ | refine gi_ldc ?_ | refine gi_add ?_ | refine gi_inc rfl ?_ | refine gi_sub (by omega) ?_ | refine gi_mul ?_ | refine go_nx rfl ?_)
    refine go_rt rfl ?_
    exact hq
  obtain ⟨s4, e4, t4⟩ := hS 4 (by omega)
  repeat (first | refine gi_con ?_ | refine gi_bip (Nat.le_of_ble_eq_true rfl) ?_ | refine gi_sip (Nat.le_of_ble_eq_true rfl) ?_ | refine gi_ldc ?_ | refine gi_add ?_ | refine gi_inc rfl ?_ | refine gi_sub (by omega) ?_ | refine gi_mul ?_ | refine go_nx rfl ?_)
  show mm_Go E d 27 _ _ (E.2.1 (10 + 4) :: _) h Q
  rw [e4]
  refine go_step ?_
  refine g_call (k := 28) rfl (by omega) (Nat.le_of_ble_eq_true rfl) rfl ?_
  refine call 4 s4 _ (by omega) e4 t4 ?_
  repeat (first | refine gi_con ?_ | refine gi_bip (Nat.le_of_ble_eq_true rfl) ?_ | refine gi_sip (Nat.le_of_ble_eq_true rfl) ?_ | refine gi_ldc ?_ | refine gi_add ?_ | refine gi_inc rfl ?_ | refine gi_sub (by omega) ?_ | refine gi_mul ?_ | refine go_nx rfl ?_)
  refine gt_eq (fun c4 => ?_) (fun c4 => ?_)
  rotate_left
  · rw [of_decide_eq_true c4] at hq
    repeat (first | refine gi_con ?_ | refine gi_bip (Nat.le_of_ble_eq_true rfl) ?_ | refine gi_sip (Nat.le_of_ble_eq_true rfl) ?_ | refine gi_ldc ?_ | refine gi_add ?_ | refine gi_inc rfl ?_ | refine gi_sub (by omega) ?_ | refine gi_mul ?_ | refine go_nx rfl ?_)
    refine go_rt rfl ?_
    exact hq
  obtain ⟨s5, e5, t5⟩ := hS 5 (by omega)
  repeat (first | refine gi_con ?_ | refine gi_bip (Nat.le_of_ble_eq_true rfl) ?_ | refine gi_sip (Nat.le_of_ble_eq_true rfl) ?_ | refine gi_ldc ?_ | refine gi_add ?_ | refine gi_inc rfl ?_ | refine gi_sub (by omega) ?_ | refine gi_mul ?_ | refine go_nx rfl ?_)
  show mm_Go E d 27 _ _ (E.2.1 (10 + 5) :: _) h Q
  rw [e5]
  refine go_step ?_
  refine g_call (k := 28) rfl (by omega) (Nat.le_of_ble_eq_true rfl) rfl ?_
  refine call 5 s5 _ (by omega) e5 t5 ?_
  repeat (first | refine gi_con ?_ | refine gi_bip (Nat.le_of_ble_eq_true rfl) ?_ | refine gi_sip (Nat.le_of_ble_eq_true rfl) ?_ | refine gi_ldc ?_ | refine gi_add ?_ | refine gi_inc rfl ?_ | refine gi_sub (by omega) ?_ | refine gi_mul ?_ | refine go_nx rfl ?_)
  refine gt_eq (fun c5 => ?_) (fun c5 => ?_)
  rotate_left
  · rw [of_decide_eq_true c5] at hq
    repeat (first | refine gi_con ?_ | refine gi_bip (Nat.le_of_ble_eq_true rfl) ?_ | refine gi_sip (Nat.le_of_ble_eq_true rfl) ?_ | refine gi_ldc ?_ | refine gi_add ?_ | refine gi_inc rfl ?_ | refine gi_sub (by omega) ?_ | refine gi_mul ?_ | refine go_nx rfl ?_)
    refine go_rt rfl ?_
    exact hq
  obtain ⟨s6, e6, t6⟩ := hS 6 (by omega)
  repeat (first | refine gi_con ?_ | refine gi_bip (Nat.le_of_ble_eq_true rfl) ?_ | refine gi_sip (Nat.le_of_ble_eq_true rfl) ?_ | refine gi_ldc ?_ | refine gi_add ?_ | refine gi_inc rfl ?_ | refine gi_sub (by omega) ?_ | refine gi_mul ?_ | refine go_nx rfl ?_)
  show mm_Go E d 27 _ _ (E.2.1 (10 + 6) :: _) h Q
  rw [e6]
  refine go_step ?_
  refine g_call (k := 28) rfl (by omega) (Nat.le_of_ble_eq_true rfl) rfl ?_
  refine call 6 s6 _ (by omega) e6 t6 ?_
  repeat (first | refine gi_con ?_ | refine gi_bip (Nat.le_of_ble_eq_true rfl) ?_ | refine gi_sip (Nat.le_of_ble_eq_true rfl) ?_ | refine gi_ldc ?_ | refine gi_add ?_ | refine gi_inc rfl ?_ | refine gi_sub (by omega) ?_ | refine gi_mul ?_ | refine go_nx rfl ?_)
  refine gt_eq (fun c6 => ?_) (fun c6 => ?_)
  rotate_left
  · rw [of_decide_eq_true c6] at hq
    repeat (first | refine gi_con ?_ | refine gi_bip (Nat.le_of_ble_eq_true rfl) ?_ | refine gi_sip (Nat.le_of_ble_eq_true rfl) ?_ | refine gi_ldc ?_ | refine gi_add ?_ | refine gi_inc rfl ?_ | refine gi_sub (by omega) ?_ | refine gi_mul ?_ | refine go_nx rfl ?_)
    refine go_rt rfl ?_
    exact hq
  obtain ⟨s7, e7, t7⟩ := hS 7 (by omega)
  repeat (first | refine gi_con ?_ | refine gi_bip (Nat.le_of_ble_eq_true rfl) ?_ | refine gi_sip (Nat.le_of_ble_eq_true rfl) ?_ | refine gi_ldc ?_ | refine gi_add ?_ | refine gi_inc rfl ?_ | refine gi_sub (by omega) ?_ | refine gi_mul ?_ | refine go_nx rfl ?_)
  show mm_Go E d 27 _ _ (E.2.1 (10 + 7) :: _) h Q
  rw [e7]
  refine go_step ?_
  refine g_call (k := 28) rfl (by omega) (Nat.le_of_ble_eq_true rfl) rfl ?_
  refine call 7 s7 _ (by omega) e7 t7 ?_
  repeat (first | refine gi_con ?_ | refine gi_bip (Nat.le_of_ble_eq_true rfl) ?_ | refine gi_sip (Nat.le_of_ble_eq_true rfl) ?_ | refine gi_ldc ?_ | refine gi_add ?_ | refine gi_inc rfl ?_ | refine gi_sub (by omega) ?_ | refine gi_mul ?_ | refine go_nx rfl ?_)
  refine gt_eq (fun c7 => ?_) (fun c7 => ?_)
  rotate_left
  · rw [of_decide_eq_true c7] at hq
    repeat (first | refine gi_con ?_ | refine gi_bip (Nat.le_of_ble_eq_true rfl) ?_ | refine gi_sip (Nat.le_of_ble_eq_true rfl) ?_ | refine gi_ldc ?_ | refine gi_add ?_ | refine gi_inc rfl ?_ | refine gi_sub (by omega) ?_ | refine gi_mul ?_ | refine go_nx rfl ?_)
    refine go_rt rfl ?_
    exact hq
  obtain ⟨s8, e8, t8⟩ := hS 8 (by omega)
  repeat (first | refine gi_con ?_ | refine gi_bip (Nat.le_of_ble_eq_true rfl) ?_ | refine gi_sip (Nat.le_of_ble_eq_true rfl) ?_ | refine gi_ldc ?_ | refine gi_add ?_ | refine gi_inc rfl ?_ | refine gi_sub (by omega) ?_ | refine gi_mul ?_ | refine go_nx rfl ?_)
  show mm_Go E d 27 _ _ (E.2.1 (10 + 8) :: _) h Q
  rw [e8]
  refine go_step ?_
  refine g_call (k := 28) rfl (by omega) (Nat.le_of_ble_eq_true rfl) rfl ?_
  refine call 8 s8 _ (by omega) e8 t8 ?_
  repeat (first | refine gi_con ?_ | refine gi_bip (Nat.le_of_ble_eq_true rfl) ?_ | refine gi_sip (Nat.le_of_ble_eq_true rfl) ?_ | refine gi_ldc ?_ | refine gi_add ?_ | refine gi_inc rfl ?_ | refine gi_sub (by omega) ?_ | refine gi_mul ?_ | refine go_nx rfl ?_)
  refine gt_eq (fun c8 => ?_) (fun c8 => ?_)
  rotate_left
  · rw [of_decide_eq_true c8] at hq
    repeat (first | refine gi_con ?_ | refine gi_bip (Nat.le_of_ble_eq_true rfl) ?_ | refine gi_sip (Nat.le_of_ble_eq_true rfl) ?_ | refine gi_ldc ?_ | refine gi_add ?_ | refine gi_inc rfl ?_ | refine gi_sub (by omega) ?_ | refine gi_mul ?_ | refine go_nx rfl ?_)
    refine go_rt rfl ?_
    exact hq
  obtain ⟨s9, e9, t9⟩ := hS 9 (by omega)
  repeat (first | refine gi_con ?_ | refine gi_bip (Nat.le_of_ble_eq_true rfl) ?_ | refine gi_sip (Nat.le_of_ble_eq_true rfl) ?_ | refine gi_ldc ?_ | refine gi_add ?_ | refine gi_inc rfl ?_ | refine gi_sub (by omega) ?_ | refine gi_mul ?_ | refine go_nx rfl ?_)
  show mm_Go E d 27 _ _ (E.2.1 (10 + 9) :: _) h Q
  rw [e9]
  refine go_step ?_
  refine g_call (k := 28) rfl (by omega) (Nat.le_of_ble_eq_true rfl) rfl ?_
  refine call 9 s9 _ (by omega) e9 t9 ?_
  repeat (first | refine gi_con ?_ | refine gi_bip (Nat.le_of_ble_eq_true rfl) ?_ | refine gi_sip (Nat.le_of_ble_eq_true rfl) ?_ | refine gi_ldc ?_ | refine gi_add ?_ | refine gi_inc rfl ?_ | refine gi_sub (by omega) ?_ | refine gi_mul ?_ | refine go_nx rfl ?_)
  refine gt_eq (fun c9 => ?_) (fun c9 => ?_)
  rotate_left
  · rw [of_decide_eq_true c9] at hq
    repeat (first | refine gi_con ?_ | refine gi_bip (Nat.le_of_ble_eq_true rfl) ?_ | refine gi_sip (Nat.le_of_ble_eq_true rfl) ?_ | refine gi_ldc ?_ | refine gi_add ?_ | refine gi_inc rfl ?_ | refine gi_sub (by omega) ?_ | refine gi_mul ?_ | refine go_nx rfl ?_)
    refine go_rt rfl ?_
    exact hq
  obtain ⟨s10, e10, t10⟩ := hS 10 (by omega)
  repeat (first | refine gi_con ?_ | refine gi_bip (Nat.le_of_ble_eq_true rfl) ?_ | refine gi_sip (Nat.le_of_ble_eq_true rfl) ?_ | refine gi_ldc ?_ | refine gi_add ?_ | refine gi_inc rfl ?_ | refine gi_sub (by omega) ?_ | refine gi_mul ?_ | refine go_nx rfl ?_)
  show mm_Go E d 27 _ _ (E.2.1 (10 + 10) :: _) h Q
  rw [e10]
  refine go_step ?_
  refine g_call (k := 28) rfl (by omega) (Nat.le_of_ble_eq_true rfl) rfl ?_
  refine call 10 s10 _ (by omega) e10 t10 ?_
  repeat (first | refine gi_con ?_ | refine gi_bip (Nat.le_of_ble_eq_true rfl) ?_ | refine gi_sip (Nat.le_of_ble_eq_true rfl) ?_ | refine gi_ldc ?_ | refine gi_add ?_ | refine gi_inc rfl ?_ | refine gi_sub (by omega) ?_ | refine gi_mul ?_ | refine go_nx rfl ?_)
  refine gt_eq (fun c10 => ?_) (fun c10 => ?_)
  rotate_left
  · rw [of_decide_eq_true c10] at hq
    repeat (first | refine gi_con ?_ | refine gi_bip (Nat.le_of_ble_eq_true rfl) ?_ | refine gi_sip (Nat.le_of_ble_eq_true rfl) ?_ | refine gi_ldc ?_ | refine gi_add ?_ | refine gi_inc rfl ?_ | refine gi_sub (by omega) ?_ | refine gi_mul ?_ | refine go_nx rfl ?_)
    refine go_rt rfl ?_
    exact hq
  obtain ⟨s11, e11, t11⟩ := hS 11 (by omega)
  repeat (first | refine gi_con ?_ | refine gi_bip (Nat.le_of_ble_eq_true rfl) ?_ | refine gi_sip (Nat.le_of_ble_eq_true rfl) ?_ | refine gi_ldc ?_ | refine gi_add ?_ | refine gi_inc rfl ?_ | refine gi_sub (by omega) ?_ | refine gi_mul ?_ | refine go_nx rfl ?_)
  show mm_Go E d 27 _ _ (E.2.1 (10 + 11) :: _) h Q
  rw [e11]
  refine go_step ?_
  refine g_call (k := 28) rfl (by omega) (Nat.le_of_ble_eq_true rfl) rfl ?_
  refine call 11 s11 _ (by omega) e11 t11 ?_
  repeat (first | refine gi_con ?_ | refine gi_bip (Nat.le_of_ble_eq_true rfl) ?_ | refine gi_sip (Nat.le_of_ble_eq_true rfl) ?_ | refine gi_ldc ?_ | refine gi_add ?_ | refine gi_inc rfl ?_ | refine gi_sub (by omega) ?_ | refine gi_mul ?_ | refine go_nx rfl ?_)
  refine gt_eq (fun c11 => ?_) (fun c11 => ?_)
  rotate_left
  · rw [of_decide_eq_true c11] at hq
    repeat (first | refine gi_con ?_ | refine gi_bip (Nat.le_of_ble_eq_true rfl) ?_ | refine gi_sip (Nat.le_of_ble_eq_true rfl) ?_ | refine gi_ldc ?_ | refine gi_add ?_ | refine gi_inc rfl ?_ | refine gi_sub (by omega) ?_ | refine gi_mul ?_ | refine go_nx rfl ?_)
    refine go_rt rfl ?_
    exact hq
  obtain ⟨s12, e12, t12⟩ := hS 12 (by omega)
  repeat (first | refine gi_con ?_ | refine gi_bip (Nat.le_of_ble_eq_true rfl) ?_ | refine gi_sip (Nat.le_of_ble_eq_true rfl) ?_ | refine gi_ldc ?_ | refine gi_add ?_ | refine gi_inc rfl ?_ | refine gi_sub (by omega) ?_ | refine gi_mul ?_ | refine go_nx rfl ?_)
  show mm_Go E d 27 _ _ (E.2.1 (10 + 12) :: _) h Q
  rw [e12]
  refine go_step ?_
  refine g_call (k := 28) rfl (by omega) (Nat.le_of_ble_eq_true rfl) rfl ?_
  refine call 12 s12 _ (by omega) e12 t12 ?_
  repeat (first | refine gi_con ?_ | refine gi_bip (Nat.le_of_ble_eq_true rfl) ?_ | refine gi_sip (Nat.le_of_ble_eq_true rfl) ?_ | refine gi_ldc ?_ | refine gi_add ?_ | refine gi_inc rfl ?_ | refine gi_sub (by omega) ?_ | refine gi_mul ?_ | refine go_nx rfl ?_)
  refine gt_eq (fun c12 => ?_) (fun c12 => ?_)
  rotate_left
  · rw [of_decide_eq_true c12] at hq
    repeat (first | refine gi_con ?_ | refine gi_bip (Nat.le_of_ble_eq_true rfl) ?_ | refine gi_sip (Nat.le_of_ble_eq_true rfl) ?_ | refine gi_ldc ?_ | refine gi_add ?_ | refine gi_inc rfl ?_ | refine gi_sub (by omega) ?_ | refine gi_mul ?_ | refine go_nx rfl ?_)
    refine go_rt rfl ?_
    exact hq
  obtain ⟨s13, e13, t13⟩ := hS 13 (by omega)
  repeat (first | refine gi_con ?_ | refine gi_bip (Nat.le_of_ble_eq_true rfl) ?_ | refine gi_sip (Nat.le_of_ble_eq_true rfl) ?_ | refine gi_ldc ?_ | refine gi_add ?_ | refine gi_inc rfl ?_ | refine gi_sub (by omega) ?_ | refine gi_mul ?_ | refine go_nx rfl ?_)
  show mm_Go E d 27 _ _ (E.2.1 (10 + 13) :: _) h Q
  rw [e13]
  refine go_step ?_
  refine g_call (k := 28) rfl (by omega) (Nat.le_of_ble_eq_true rfl) rfl ?_
  refine call 13 s13 _ (by omega) e13 t13 ?_
  repeat (first | refine gi_con ?_ | refine gi_bip (Nat.le_of_ble_eq_true rfl) ?_ | refine gi_sip (Nat.le_of_ble_eq_true rfl) ?_ | refine gi_ldc ?_ | refine gi_add ?_ | refine gi_inc rfl ?_ | refine gi_sub (by omega) ?_ | refine gi_mul ?_ | refine go_nx rfl ?_)
  refine gt_eq (fun c13 => ?_) (fun c13 => ?_)
  rotate_left
  · rw [of_decide_eq_true c13] at hq
    repeat (first | refine gi_con ?_ | refine gi_bip (Nat.le_of_ble_eq_true rfl) ?_ | refine gi_sip (Nat.le_of_ble_eq_true rfl) ?_ | refine gi_ldc ?_ | refine gi_add ?_ | refine gi_inc rfl ?_ | refine gi_sub (by omega) ?_ | refine gi_mul ?_ | refine go_nx rfl ?_)
    refine go_rt rfl ?_
    exact hq
  obtain ⟨s14, e14, t14⟩ := hS 14 (by omega)
  repeat (first | refine gi_con ?_ | refine gi_bip (Nat.le_of_ble_eq_true rfl) ?_ | refine gi_sip (Nat.le_of_ble_eq_true rfl) ?_ | refine gi_ldc ?_ | refine gi_add ?_ | refine gi_inc rfl ?_ | refine gi_sub (by omega) ?_ | refine gi_mul ?_ | refine go_nx rfl ?_)
  show mm_Go E d 27 _ _ (E.2.1 (10 + 14) :: _) h Q
  rw [e14]
  refine go_step ?_
  refine g_call (k := 28) rfl (by omega) (Nat.le_of_ble_eq_true rfl) rfl ?_
  refine call 14 s14 _ (by omega) e14 t14 ?_
  repeat (first | refine gi_con ?_ | refine gi_bip (Nat.le_of_ble_eq_true rfl) ?_ | refine gi_sip (Nat.le_of_ble_eq_true rfl) ?_ | refine gi_ldc ?_ | refine gi_add ?_ | refine gi_inc rfl ?_ | refine gi_sub (by omega) ?_ | refine gi_mul ?_ | refine go_nx rfl ?_)
  refine gt_eq (fun c14 => ?_) (fun c14 => ?_)
  rotate_left
  · rw [of_decide_eq_true c14] at hq
    repeat (first | refine gi_con ?_ | refine gi_bip (Nat.le_of_ble_eq_true rfl) ?_ | refine gi_sip (Nat.le_of_ble_eq_true rfl) ?_ | refine gi_ldc ?_ | refine gi_add ?_ | refine gi_inc rfl ?_ | refine gi_sub (by omega) ?_ | refine gi_mul ?_ | refine go_nx rfl ?_)
    refine go_rt rfl ?_
    exact hq
  have hle := q_word_le B p
  have h1 : q_word B p = 1 := by
    have d0 := of_decide_eq_false c0
    have d1 := of_decide_eq_false c1
    have d2 := of_decide_eq_false c2
    have d3 := of_decide_eq_false c3
    have d4 := of_decide_eq_false c4
    have d5 := of_decide_eq_false c5
    have d6 := of_decide_eq_false c6
    have d7 := of_decide_eq_false c7
    have d8 := of_decide_eq_false c8
    have d9 := of_decide_eq_false c9
    have d10 := of_decide_eq_false c10
    have d11 := of_decide_eq_false c11
    have d12 := of_decide_eq_false c12
    have d13 := of_decide_eq_false c13
    have d14 := of_decide_eq_false c14
    omega
  rw [h1] at hq
  repeat (first | refine gi_con ?_ | refine gi_bip (Nat.le_of_ble_eq_true rfl) ?_ | refine gi_sip (Nat.le_of_ble_eq_true rfl) ?_ | refine gi_ldc ?_ | refine gi_add ?_ | refine gi_inc rfl ?_ | refine gi_sub (by omega) ?_ | refine gi_mul ?_ | refine go_nx rfl ?_)
  refine go_rt rfl ?_
  exact hq
def nCell (row : Nat) (B : Nat → Nat) (p : Nat) (tf tt : Int32) (num : Int64) (fi nx : Value) (ord : Int32) : mmC := .inr (4, [.ref row, .int (nI (B p)), .int (nI p), .int (nI (q_ne B p)), .int (nI (q_word B p)), .int (nI (q_cls (B p))), .int tf, .int tt, .long num, fi, nx, .int ord])
theorem sp_ninit {a row n p : Nat} {B : Nat → Nat} (hd : 6 ≤ d) (hS : sStr E) (hk : hOk E h) (hr : bRow h row n B) (hp : p + 1 ≤ q_ne B p) (hne : q_ne B p ≤ 2000) (ha : h.2.2 a = some (.inr (4, [.null, .int 0, .int 0, .int 0, .int 0, .int 0, .int 0, .int 0, .long 0, .null, .null, .int 0]))) (hq : Q none (mm_set h a (nCell row B p 0 0 0 .null .null 0))) : mm_Go E d 26 (mm_blk 26 0) [.ref a, .ref row, .int (nI (B p)), .int (nI p), .int (nI (q_ne B p))] [] h Q := by
  have hB := hr.2.2.1 p
  have hra : row ≠ a := fun q => by
    obtain ⟨-, ⟨f, hf, -⟩, -⟩ := hr
    rw [q, ha] at hf
    cases hf
  have brow : ∀ c, bRow (mm_set h a c) row n B := fun c => by
    obtain ⟨r1, ⟨f, r2, r3⟩, r4⟩ := hr
    exact ⟨r1, ⟨f, by rw [hs_ne hra]; exact r2, r3⟩, r4⟩
  repeat (first | refine gi_con ?_ | refine gi_bip (Nat.le_of_ble_eq_true rfl) ?_ | refine gi_sip (Nat.le_of_ble_eq_true rfl) ?_ | refine gi_ldc ?_ | refine gi_add ?_ | refine gi_inc rfl ?_ | refine gi_sub (by omega) ?_ | refine gi_mul ?_ | refine go_nx rfl ?_)
  refine gc_put (fs' := [.ref row, .int 0, .int 0, .int 0, .int 0, .int 0, .int 0, .int 0, .long 0, .null, .null, .int 0]) ha rfl (Nat.le_of_ble_eq_true rfl) rfl rfl ?_
  repeat (first | refine gi_con ?_ | refine gi_bip (Nat.le_of_ble_eq_true rfl) ?_ | refine gi_sip (Nat.le_of_ble_eq_true rfl) ?_ | refine gi_ldc ?_ | refine gi_add ?_ | refine gi_inc rfl ?_ | refine gi_sub (by omega) ?_ | refine gi_mul ?_ | refine go_nx rfl ?_)
  refine gc_put (fs' := [.ref row, .int (nI (B p)), .int 0, .int 0, .int 0, .int 0, .int 0, .int 0, .long 0, .null, .null, .int 0]) hs_at rfl (Nat.le_of_ble_eq_true rfl) rfl rfl ?_
  rw [hs_set]
  repeat (first | refine gi_con ?_ | refine gi_bip (Nat.le_of_ble_eq_true rfl) ?_ | refine gi_sip (Nat.le_of_ble_eq_true rfl) ?_ | refine gi_ldc ?_ | refine gi_add ?_ | refine gi_inc rfl ?_ | refine gi_sub (by omega) ?_ | refine gi_mul ?_ | refine go_nx rfl ?_)
  refine gc_put (fs' := [.ref row, .int (nI (B p)), .int (nI p), .int 0, .int 0, .int 0, .int 0, .int 0, .long 0, .null, .null, .int 0]) hs_at rfl (Nat.le_of_ble_eq_true rfl) rfl rfl ?_
  rw [hs_set]
  repeat (first | refine gi_con ?_ | refine gi_bip (Nat.le_of_ble_eq_true rfl) ?_ | refine gi_sip (Nat.le_of_ble_eq_true rfl) ?_ | refine gi_ldc ?_ | refine gi_add ?_ | refine gi_inc rfl ?_ | refine gi_sub (by omega) ?_ | refine gi_mul ?_ | refine go_nx rfl ?_)
  refine gc_put (fs' := [.ref row, .int (nI (B p)), .int (nI p), .int (nI (q_ne B p)), .int 0, .int 0, .int 0, .int 0, .long 0, .null, .null, .int 0]) hs_at rfl (Nat.le_of_ble_eq_true rfl) rfl rfl ?_
  rw [hs_set]
  repeat (first | refine gi_con ?_ | refine gi_bip (Nat.le_of_ble_eq_true rfl) ?_ | refine gi_sip (Nat.le_of_ble_eq_true rfl) ?_ | refine gi_ldc ?_ | refine gi_add ?_ | refine gi_inc rfl ?_ | refine gi_sub (by omega) ?_ | refine gi_mul ?_ | refine go_nx rfl ?_)
  refine go_step ?_
  refine g_call (k := 27) rfl (by omega) (Nat.le_of_ble_eq_true rfl) rfl ?_
  refine sp_wordOf (by omega) hS (hOk_set2 hk ha) (brow _) hp hne ?_
  repeat (first | refine gi_con ?_ | refine gi_bip (Nat.le_of_ble_eq_true rfl) ?_ | refine gi_sip (Nat.le_of_ble_eq_true rfl) ?_ | refine gi_ldc ?_ | refine gi_add ?_ | refine gi_inc rfl ?_ | refine gi_sub (by omega) ?_ | refine gi_mul ?_ | refine go_nx rfl ?_)
  refine gc_put (fs' := [.ref row, .int (nI (B p)), .int (nI p), .int (nI (q_ne B p)), .int (nI (q_word B p)), .int 0, .int 0, .int 0, .long 0, .null, .null, .int 0]) hs_at rfl (Nat.le_of_ble_eq_true rfl) rfl rfl ?_
  rw [hs_set]
  repeat (first | refine gi_con ?_ | refine gi_bip (Nat.le_of_ble_eq_true rfl) ?_ | refine gi_sip (Nat.le_of_ble_eq_true rfl) ?_ | refine gi_ldc ?_ | refine gi_add ?_ | refine gi_inc rfl ?_ | refine gi_sub (by omega) ?_ | refine gi_mul ?_ | refine go_nx rfl ?_)
  refine go_step ?_
  refine g_call (k := 36) rfl (by omega) (Nat.le_of_ble_eq_true rfl) rfl ?_
  refine sp_classOf hB ?_
  repeat (first | refine gi_con ?_ | refine gi_bip (Nat.le_of_ble_eq_true rfl) ?_ | refine gi_sip (Nat.le_of_ble_eq_true rfl) ?_ | refine gi_ldc ?_ | refine gi_add ?_ | refine gi_inc rfl ?_ | refine gi_sub (by omega) ?_ | refine gi_mul ?_ | refine go_nx rfl ?_)
  refine gc_put (fs' := [.ref row, .int (nI (B p)), .int (nI p), .int (nI (q_ne B p)), .int (nI (q_word B p)), .int (nI (q_cls (B p))), .int 0, .int 0, .long 0, .null, .null, .int 0]) hs_at rfl (Nat.le_of_ble_eq_true rfl) rfl rfl ?_
  rw [hs_set]
  refine go_rt rfl ?_
  exact hq
/-- the node of the whole document -/
def rCell (row : Nat) (fi : Value) : mmC := .inr (4, [.ref row, .int (nI 3), .int (-1), .int (nI 0), .int (nI 0), .int (nI 4), .int 0, .int 0, .long 0, fi, .null, .int 0])
theorem sp_rinit {a row : Nat} (hd : 6 ≤ d) (ha : h.2.2 a = some (.inr (4, [.null, .int 0, .int 0, .int 0, .int 0, .int 0, .int 0, .int 0, .long 0, .null, .null, .int 0]))) (hq : Q none (mm_set h a (rCell row .null))) : mm_Go E d 26 (mm_blk 26 0) [.ref a, .ref row, .int (nI 3), .int (Int32.ofInt (-1)), .int (nI 0)] [] h Q := by
  repeat (first | refine gi_con ?_ | refine gi_bip (Nat.le_of_ble_eq_true rfl) ?_ | refine gi_sip (Nat.le_of_ble_eq_true rfl) ?_ | refine gi_ldc ?_ | refine gi_add ?_ | refine gi_inc rfl ?_ | refine gi_sub (by omega) ?_ | refine gi_mul ?_ | refine go_nx rfl ?_)
  refine gc_put (fs' := [.ref row, .int 0, .int 0, .int 0, .int 0, .int 0, .int 0, .int 0, .long 0, .null, .null, .int 0]) ha rfl (Nat.le_of_ble_eq_true rfl) rfl rfl ?_
  repeat (first | refine gi_con ?_ | refine gi_bip (Nat.le_of_ble_eq_true rfl) ?_ | refine gi_sip (Nat.le_of_ble_eq_true rfl) ?_ | refine gi_ldc ?_ | refine gi_add ?_ | refine gi_inc rfl ?_ | refine gi_sub (by omega) ?_ | refine gi_mul ?_ | refine go_nx rfl ?_)
  refine gc_put (fs' := [.ref row, .int (nI 3), .int 0, .int 0, .int 0, .int 0, .int 0, .int 0, .long 0, .null, .null, .int 0]) hs_at rfl (Nat.le_of_ble_eq_true rfl) rfl rfl ?_
  rw [hs_set]
  repeat (first | refine gi_con ?_ | refine gi_bip (Nat.le_of_ble_eq_true rfl) ?_ | refine gi_sip (Nat.le_of_ble_eq_true rfl) ?_ | refine gi_ldc ?_ | refine gi_add ?_ | refine gi_inc rfl ?_ | refine gi_sub (by omega) ?_ | refine gi_mul ?_ | refine go_nx rfl ?_)
  refine gc_put (fs' := [.ref row, .int (nI 3), .int (-1), .int 0, .int 0, .int 0, .int 0, .int 0, .long 0, .null, .null, .int 0]) hs_at rfl (Nat.le_of_ble_eq_true rfl) rfl rfl ?_
  rw [hs_set]
  repeat (first | refine gi_con ?_ | refine gi_bip (Nat.le_of_ble_eq_true rfl) ?_ | refine gi_sip (Nat.le_of_ble_eq_true rfl) ?_ | refine gi_ldc ?_ | refine gi_add ?_ | refine gi_inc rfl ?_ | refine gi_sub (by omega) ?_ | refine gi_mul ?_ | refine go_nx rfl ?_)
  refine gc_put (fs' := [.ref row, .int (nI 3), .int (-1), .int (nI 0), .int 0, .int 0, .int 0, .int 0, .long 0, .null, .null, .int 0]) hs_at rfl (Nat.le_of_ble_eq_true rfl) rfl rfl ?_
  rw [hs_set]
  repeat (first | refine gi_con ?_ | refine gi_bip (Nat.le_of_ble_eq_true rfl) ?_ | refine gi_sip (Nat.le_of_ble_eq_true rfl) ?_ | refine gi_ldc ?_ | refine gi_add ?_ | refine gi_inc rfl ?_ | refine gi_sub (by omega) ?_ | refine gi_mul ?_ | refine go_nx rfl ?_)
  rw [show Int32.ofInt (-1) + nI 1 = nI 0 from by decide]
  refine go_step ?_
  refine g_call (k := 27) rfl (by omega) (Nat.le_of_ble_eq_true rfl) rfl ?_
  repeat (first | refine gi_con ?_ | refine gi_bip (Nat.le_of_ble_eq_true rfl) ?_ | refine gi_sip (Nat.le_of_ble_eq_true rfl) ?_ | refine gi_ldc ?_ | refine gi_add ?_ | refine gi_inc rfl ?_ | refine gi_sub (by omega) ?_ | refine gi_mul ?_ | refine go_nx rfl ?_)
  first | refine gb_lt (by omega) (by omega) (fun c => ?_) (fun c => ?_) | refine gb_ge (by omega) (by omega) (fun c => ?_) (fun c => ?_) | refine gb_gt (by omega) (by omega) (fun c => ?_) (fun c => ?_) | refine gb_le (by omega) (by omega) (fun c => ?_) (fun c => ?_) | refine gb_eq (by omega) (by omega) (fun c => ?_) (fun c => ?_) | refine gb_ne (by omega) (by omega) (fun c => ?_) (fun c => ?_)
  · repeat (first | refine gi_con ?_ | refine gi_bip (Nat.le_of_ble_eq_true rfl) ?_ | refine gi_sip (Nat.le_of_ble_eq_true rfl) ?_ | refine gi_ldc ?_ | refine gi_add ?_ | refine gi_inc rfl ?_ | refine gi_sub (by omega) ?_ | refine gi_mul ?_ | refine go_nx rfl ?_)
    refine go_rt rfl ?_
    repeat (first | refine gi_con ?_ | refine gi_bip (Nat.le_of_ble_eq_true rfl) ?_ | refine gi_sip (Nat.le_of_ble_eq_true rfl) ?_ | refine gi_ldc ?_ | refine gi_add ?_ | refine gi_inc rfl ?_ | refine gi_sub (by omega) ?_ | refine gi_mul ?_ | refine go_nx rfl ?_)
    refine gc_put (fs' := [.ref row, .int (nI 3), .int (-1), .int (nI 0), .int (nI 0), .int 0, .int 0, .int 0, .long 0, .null, .null, .int 0]) hs_at rfl (Nat.le_of_ble_eq_true rfl) rfl rfl ?_
    rw [hs_set]
    repeat (first | refine gi_con ?_ | refine gi_bip (Nat.le_of_ble_eq_true rfl) ?_ | refine gi_sip (Nat.le_of_ble_eq_true rfl) ?_ | refine gi_ldc ?_ | refine gi_add ?_ | refine gi_inc rfl ?_ | refine gi_sub (by omega) ?_ | refine gi_mul ?_ | refine go_nx rfl ?_)
    refine go_step ?_
    refine g_call (k := 36) rfl (by omega) (Nat.le_of_ble_eq_true rfl) rfl ?_
    refine sp_classOf (by omega) ?_
    rw [show q_cls 3 = 4 from rfl]
    repeat (first | refine gi_con ?_ | refine gi_bip (Nat.le_of_ble_eq_true rfl) ?_ | refine gi_sip (Nat.le_of_ble_eq_true rfl) ?_ | refine gi_ldc ?_ | refine gi_add ?_ | refine gi_inc rfl ?_ | refine gi_sub (by omega) ?_ | refine gi_mul ?_ | refine go_nx rfl ?_)
    refine gc_put (fs' := [.ref row, .int (nI 3), .int (-1), .int (nI 0), .int (nI 0), .int (nI 4), .int 0, .int 0, .long 0, .null, .null, .int 0]) hs_at rfl (Nat.le_of_ble_eq_true rfl) rfl rfl ?_
    rw [hs_set]
    refine go_rt rfl ?_
    exact hq
  · omega
theorem gc_copyB {m pc idx : Nat} {is : List mmI} {L S : List Value} {ex : List Nat} {b c n0 n1 sp dp n : Nat} {f g : Nat → Int32} (hb : h.2.2 b = some (.inl (0, n0, .inl f))) (hc : h.2.2 c = some (.inl (0, n1, .inl g))) (h0 : mm_k0 ex = 1000) (h1 : sp + n ≤ n0) (h2 : dp + n ≤ n1) (h3 : n0 < 2 ^ 30) (h4 : n1 < 2 ^ 30) (hs : mm_sum S ≤ 8) (hg : mm_Go E d m is L S (mm_set h c (.inl (0, n1, .inl (va_cpy f g sp dp n)))) Q) : mm_Go E d m ((pc, .invokestatic idx, ex) :: is) L (.int (nI n) :: .int (nI dp) :: .ref c :: .int (nI sp) :: .ref b :: S) h Q := by
  refine go_nx (L' := L) (S' := S) (h' := mm_set h c (.inl (0, n1, .inl (va_cpy f g sp dp n)))) ?_ hg
  show (if mm_k0 ex = 1000 then mm_copy L (.int (nI n) :: .int (nI dp) :: .ref c :: .int (nI sp) :: .ref b :: S) h else _) = _
  rw [if_pos h0]
  unfold mm_copy
  dsimp only
  rw [hb, hc]
  dsimp only
  rw [nI_clamp (by omega), nI_clamp (by omega), nI_clamp (by omega), if_pos ⟨nI_pos (by omega), nI_pos (by omega), nI_pos (by omega), rfl, by decide, h1, h2, hs⟩]
theorem sp_copyRange {b fr to : Nat} {f : Nat → Int32} (hd : 3 ≤ d) (hk : hOk E h) (hb : h.2.2 b = some (.inl (0, 2000, .inl f))) (h1 : fr ≤ to) (h2 : to ≤ 2000) (hq : ∀ g, (∀ k, k < to - fr → g k = f (fr + k)) → Q (some (.ref h.1)) (mm_new h (to - fr) (.inl (0, to - fr, .inl g)))) : mm_Go E d 4 (mm_blk 4 0) [.ref b, .int (nI fr), .int (nI to)] [] h Q := by
  have hlt := hOk_lt hk hb
  have one : mm_Go E d 4 (mm_blk 4 1) [.ref b, .int (nI fr), .int (nI to)] [] h Q := by
    repeat (first | refine gi_con ?_ | refine gi_bip (Nat.le_of_ble_eq_true rfl) ?_ | refine gi_sip (Nat.le_of_ble_eq_true rfl) ?_ | refine gi_ldc ?_ | refine gi_add ?_ | refine gi_inc rfl ?_ | refine gi_sub (by omega) ?_ | refine gi_mul ?_ | refine go_nx rfl ?_)
    refine go_step ?_
    refine g_call (k := 5) rfl (by omega) (Nat.le_of_ble_eq_true rfl) rfl ?_
    repeat (first | refine gi_con ?_ | refine gi_bip (Nat.le_of_ble_eq_true rfl) ?_ | refine gi_sip (Nat.le_of_ble_eq_true rfl) ?_ | refine gi_ldc ?_ | refine gi_add ?_ | refine gi_inc rfl ?_ | refine gi_sub (by omega) ?_ | refine gi_mul ?_ | refine go_nx rfl ?_)
    refine go_step ?_
    refine g_call (k := 6) rfl (by omega) (Nat.le_of_ble_eq_true rfl) rfl ?_
    repeat (first | refine gi_con ?_ | refine gi_bip (Nat.le_of_ble_eq_true rfl) ?_ | refine gi_sip (Nat.le_of_ble_eq_true rfl) ?_ | refine gi_ldc ?_ | refine gi_add ?_ | refine gi_inc rfl ?_ | refine gi_sub (by omega) ?_ | refine gi_mul ?_ | refine go_nx rfl ?_)
    first | refine gb_lt (by omega) (by omega) (fun c => ?_) (fun c => ?_) | refine gb_ge (by omega) (by omega) (fun c => ?_) (fun c => ?_) | refine gb_gt (by omega) (by omega) (fun c => ?_) (fun c => ?_) | refine gb_le (by omega) (by omega) (fun c => ?_) (fun c => ?_) | refine gb_eq (by omega) (by omega) (fun c => ?_) (fun c => ?_) | refine gb_ne (by omega) (by omega) (fun c => ?_) (fun c => ?_)
    · refine go_rt rfl ?_
      repeat (first | refine gi_con ?_ | refine gi_bip (Nat.le_of_ble_eq_true rfl) ?_ | refine gi_sip (Nat.le_of_ble_eq_true rfl) ?_ | refine gi_ldc ?_ | refine gi_add ?_ | refine gi_inc rfl ?_ | refine gi_sub (by omega) ?_ | refine gi_mul ?_ | refine go_nx rfl ?_)
      refine gc_newB (by omega) rfl ?_
      have hbn : (mm_new h (to - fr) (.inl (0, to - fr, .inl fun _ => 0))).2.2 b = some (.inl (0, 2000, .inl f)) := by rw [hn_ne (by omega)]; exact hb
      repeat (first | refine gi_con ?_ | refine gi_bip (Nat.le_of_ble_eq_true rfl) ?_ | refine gi_sip (Nat.le_of_ble_eq_true rfl) ?_ | refine gi_ldc ?_ | refine gi_add ?_ | refine gi_inc rfl ?_ | refine gi_sub (by omega) ?_ | refine gi_mul ?_ | refine go_nx rfl ?_)
      refine gc_alen hbn rfl ?_
      repeat (first | refine gi_con ?_ | refine gi_bip (Nat.le_of_ble_eq_true rfl) ?_ | refine gi_sip (Nat.le_of_ble_eq_true rfl) ?_ | refine gi_ldc ?_ | refine gi_add ?_ | refine gi_inc rfl ?_ | refine gi_sub (by omega) ?_ | refine gi_mul ?_ | refine go_nx rfl ?_)
      refine go_step ?_
      refine g_call (k := 7) rfl (by omega) (Nat.le_of_ble_eq_true rfl) rfl ?_
      refine sp_min (by omega) (by omega) ?_
      rw [show min (2000 - fr) (to - fr) = to - fr by omega]
      refine gc_copyB (sp := fr) (dp := 0) hbn hn_at rfl (by omega) (by omega) (by omega) (by omega) (Nat.le_of_ble_eq_true rfl) ?_
      rw [hn_set]
      repeat (first | refine gi_con ?_ | refine gi_bip (Nat.le_of_ble_eq_true rfl) ?_ | refine gi_sip (Nat.le_of_ble_eq_true rfl) ?_ | refine gi_ldc ?_ | refine gi_add ?_ | refine gi_inc rfl ?_ | refine gi_sub (by omega) ?_ | refine gi_mul ?_ | refine go_nx rfl ?_)
      refine go_rt rfl ?_
      repeat (first | refine gi_con ?_ | refine gi_bip (Nat.le_of_ble_eq_true rfl) ?_ | refine gi_sip (Nat.le_of_ble_eq_true rfl) ?_ | refine gi_ldc ?_ | refine gi_add ?_ | refine gi_inc rfl ?_ | refine gi_sub (by omega) ?_ | refine gi_mul ?_ | refine go_nx rfl ?_)
      refine go_rt rfl ?_
      refine hq _ (fun k hk' => ?_)
      unfold va_cpy
      rw [if_pos (by omega), show fr + (k - 0) = fr + k by omega]
    · omega
  repeat (first | refine gi_con ?_ | refine gi_bip (Nat.le_of_ble_eq_true rfl) ?_ | refine gi_sip (Nat.le_of_ble_eq_true rfl) ?_ | refine gi_ldc ?_ | refine gi_add ?_ | refine gi_inc rfl ?_ | refine gi_sub (by omega) ?_ | refine gi_mul ?_ | refine go_nx rfl ?_)
  first | refine gz_eq (by omega) (fun c1 => ?_) (fun c1 => ?_) | refine gz_ne (by omega) (fun c1 => ?_) (fun c1 => ?_) | refine gz_le (by omega) (fun c1 => ?_) (fun c1 => ?_) | refine gz_gt (by omega) (fun c1 => ?_) (fun c1 => ?_) | refine gz_lt (by omega) (fun c1 => ?_) (fun c1 => ?_) | refine gz_ge (by omega) (fun c1 => ?_) (fun c1 => ?_)
  · exact one
  repeat (first | refine gi_con ?_ | refine gi_bip (Nat.le_of_ble_eq_true rfl) ?_ | refine gi_sip (Nat.le_of_ble_eq_true rfl) ?_ | refine gi_ldc ?_ | refine gi_add ?_ | refine gi_inc rfl ?_ | refine gi_sub (by omega) ?_ | refine gi_mul ?_ | refine go_nx rfl ?_)
  refine gc_alen hb rfl ?_
  first | refine gb_lt (by omega) (by omega) (fun c2 => ?_) (fun c2 => ?_) | refine gb_ge (by omega) (by omega) (fun c2 => ?_) (fun c2 => ?_) | refine gb_gt (by omega) (by omega) (fun c2 => ?_) (fun c2 => ?_) | refine gb_le (by omega) (by omega) (fun c2 => ?_) (fun c2 => ?_) | refine gb_eq (by omega) (by omega) (fun c2 => ?_) (fun c2 => ?_) | refine gb_ne (by omega) (by omega) (fun c2 => ?_) (fun c2 => ?_)
  · have c2' : to = 2000 := c2
    repeat (first | refine gi_con ?_ | refine gi_bip (Nat.le_of_ble_eq_true rfl) ?_ | refine gi_sip (Nat.le_of_ble_eq_true rfl) ?_ | refine gi_ldc ?_ | refine gi_add ?_ | refine gi_inc rfl ?_ | refine gi_sub (by omega) ?_ | refine gi_mul ?_ | refine go_nx rfl ?_)
    refine go_nx (S' := [.ref h.1]) (h' := mm_new h 2000 (.inl (0, 2000, .inl f))) (by
      show (match h.2.2 b with
        | some (.inl (t, n, .inl f)) => if t = 0 ∧ mm_sum [] ≤ 8 then mm_nx _ (.ref h.1 :: []) (mm_new h n (.inl (t, n, .inl f))) else mm_bad
        | _ => mm_bad) = _
      rw [hb]
      exact if_pos ⟨rfl, by decide⟩) ?_
    refine gc_cast1 hn_at rfl rfl ?_
    refine go_rt rfl ?_
    have := hq f (fun k _ => by rw [c1, Nat.zero_add])
    rw [c1, c2'] at this
    exact this
  · refine go_jp rfl ?_
    exact one
end C
