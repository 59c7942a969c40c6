/-! THE REFERENCE: isValue, isBox, isDocument -/
theorem q_box_le {u : Nat → Bool} {B : Nat → Nat} : ∀ {k v stop : Nat} {row : Bool}, q_box u B k v stop row = true → v + q_sz B v ≤ stop ∧ 5 ≤ q_sz B v := by
  intro k
  cases k with
  | zero => intro v stop row h; cases h
  | succ k =>
    intro v stop row h
    unfold q_box at h
    simp only [Bool.and_eq_true, decide_eq_true_eq] at h
    exact ⟨h.1.1.2, h.1.1.1.2⟩
theorem q_vok_ok {u : Nat → Bool} {B : Nat → Nat} {k p last : Nat} (hne : q_ne B p < last) (h : q_vok (q_box u B k) B p last = true) : q_next B p ≤ last ∧ (B p = 3 ∨ B p = 4 → 5 ≤ q_sz B (q_val B p)) := by
  unfold q_vok at h
  have hv : q_val B p ≤ last := hne
  unfold q_next q_ln
  by_cases h16 : B p = 16
  · rw [if_pos h16] at h ⊢
    exact ⟨of_decide_eq_true h, fun q => by omega⟩
  rw [if_neg h16] at h ⊢
  by_cases h18 : B p = 18
  · rw [if_pos h18] at h ⊢
    exact ⟨of_decide_eq_true h, fun q => by omega⟩
  rw [if_neg h18] at h ⊢
  by_cases h8 : B p = 8
  · rw [if_pos h8] at h ⊢
    rw [Bool.and_eq_true, decide_eq_true_eq] at h
    exact ⟨h.1, fun q => by omega⟩
  rw [if_neg h8] at h ⊢
  by_cases h2 : B p = 2
  · rw [if_pos h2] at h ⊢
    simp only [Bool.and_eq_true, decide_eq_true_eq] at h
    exact ⟨by omega, fun q => by omega⟩
  rw [if_neg h2] at h ⊢
  by_cases h10 : B p = 10
  · rw [if_neg (by omega)]
    exact ⟨hv, fun q => by omega⟩
  rw [if_neg h10] at h
  by_cases h3 : B p = 3
  · rw [if_pos h3] at h
    rw [if_pos (Or.inl h3)]
    exact ⟨(q_box_le h).1, fun _ => (q_box_le h).2⟩
  rw [if_neg h3] at h
  by_cases h4 : B p = 4
  · rw [if_pos h4] at h
    rw [if_pos (Or.inr h4)]
    exact ⟨(q_box_le h).1, fun _ => (q_box_le h).2⟩
  rw [if_neg h4] at h
  cases h
/-- is the text of a value right -/
def q_tx (B : Nat → Nat) (p : Nat) : Bool := if B p = 2 then q_utf B (q_val B p + 3 + q_sz B (q_val B p)) (q_val B p + 3 + q_sz B (q_val B p) - (q_val B p + 4)) (q_val B p + 4) else true
theorem q_vok_i {B : Nat → Nat} {p last : Nat} {vb : Nat → Nat → Bool → Bool} (h1 : B p ≠ 16) (h2 : B p ≠ 18) (h3 : B p ≠ 8) (h4 : B p ≠ 2) (h5 : B p ≠ 10) : q_vok vb B p last = if B p = 3 then vb (q_val B p) last false else if B p = 4 then vb (q_val B p) last true else false := by
  unfold q_vok
  rw [if_neg h1, if_neg h2, if_neg h3, if_neg h4, if_neg h5]
section M
variable {E : mmE} {d : Nat} {h : mmH} {Q : Option Value → mmH → Prop} {o st b n : Nat} {R B : Nat → Nat}
theorem sp_misval {p last deep : Nat} {vb : Nat → Nat → Bool → Bool} (hd : 3 ≤ d) (hm : mSt h o st R) (hw : mW R b n B) (hne : q_ne B p < last) (hln : last < n) (hdp : deep < 100)
    (hbox : ∀ (row : Bool) (Q' : Option Value → mmH → Prop), Q' (some (.int (q_t (vb (q_val B p) last row)))) h → mm_Go E (d - 1) 119 (mm_blk 119 0) [.ref o, .int (nI (b + q_val B p)), .int (nI (b + last)), .int (nI (deep + 1)), .int (q_t row), mm_un, mm_un, mm_un, mm_un, mm_un] [] h Q')
    (hq : Q (some (.int (q_t (q_vok vb B p last && q_tx B p)))) h) : mm_Go E d 126 (mm_blk 126 0) [.ref o, .int (nI (B p)), .int (nI (b + q_val B p)), .int (nI (b + last)), .int (nI deep)] [] h Q := by
  have w2 := hw.2.1
  have hrn := hw.2.2.1
  have hBp := hw.2.2.2.1 p
  have hv : q_val B p ≤ last := hne
  have one : B p = 16 ∨ B p = 18 → mm_Go E d 126 (mm_blk 126 1) [.ref o, .int (nI (B p)), .int (nI (b + q_val B p)), .int (nI (b + last)), .int (nI deep)] [] h Q := by
    intro hk
    rw [show q_tx B p = true from by unfold q_tx; rw [if_neg (by omega)], Bool.and_true] at hq
    unfold q_vok at hq
    repeat (first | refine gi_con ?_ | refine gi_bip (Nat.le_of_ble_eq_true rfl) ?_ | refine gi_sip (Nat.le_of_ble_eq_true rfl) ?_ | refine gi_ldc ?_ | refine gi_add ?_ | refine gi_inc rfl ?_ | refine gi_sub (by omega) ?_ | refine gi_mul ?_ | refine go_nx rfl ?_)
    first | refine gb_lt (by omega) (by omega) (fun c => ?_) (fun c => ?_) | refine gb_ge (by omega) (by omega) (fun c => ?_) (fun c => ?_) | refine gb_gt (by omega) (by omega) (fun c => ?_) (fun c => ?_) | refine gb_le (by omega) (by omega) (fun c => ?_) (fun c => ?_) | refine gb_eq (by omega) (by omega) (fun c => ?_) (fun c => ?_) | refine gb_ne (by omega) (by omega) (fun c => ?_) (fun c => ?_)
    · rw [if_neg c, if_pos (hk.resolve_left c)] at hq
      repeat (first | refine gi_con ?_ | refine gi_bip (Nat.le_of_ble_eq_true rfl) ?_ | refine gi_sip (Nat.le_of_ble_eq_true rfl) ?_ | refine gi_ldc ?_ | refine gi_add ?_ | refine gi_inc rfl ?_ | refine gi_sub (by omega) ?_ | refine gi_mul ?_ | refine go_nx rfl ?_)
      refine go_jp rfl ?_
      first | refine gb_lt (by omega) (by omega) (fun c2 => ?_) (fun c2 => ?_) | refine gb_ge (by omega) (by omega) (fun c2 => ?_) (fun c2 => ?_) | refine gb_gt (by omega) (by omega) (fun c2 => ?_) (fun c2 => ?_) | refine gb_le (by omega) (by omega) (fun c2 => ?_) (fun c2 => ?_) | refine gb_eq (by omega) (by omega) (fun c2 => ?_) (fun c2 => ?_) | refine gb_ne (by omega) (by omega) (fun c2 => ?_) (fun c2 => ?_)
      · rw [decide_eq_false (by omega)] at hq
        repeat (first | refine gi_con ?_ | refine gi_bip (Nat.le_of_ble_eq_true rfl) ?_ | refine gi_sip (Nat.le_of_ble_eq_true rfl) ?_ | refine gi_ldc ?_ | refine gi_add ?_ | refine gi_inc rfl ?_ | refine gi_sub (by omega) ?_ | refine gi_mul ?_ | refine go_nx rfl ?_)
        refine go_jp rfl ?_
        refine go_rt rfl ?_
        exact hq
      · rw [decide_eq_true (by omega)] at hq
        repeat (first | refine gi_con ?_ | refine gi_bip (Nat.le_of_ble_eq_true rfl) ?_ | refine gi_sip (Nat.le_of_ble_eq_true rfl) ?_ | refine gi_ldc ?_ | refine gi_add ?_ | refine gi_inc rfl ?_ | refine gi_sub (by omega) ?_ | refine gi_mul ?_ | refine go_nx rfl ?_)
        refine go_jp rfl ?_
        refine go_rt rfl ?_
        exact hq
    · rw [if_pos c] at hq
      repeat (first | refine gi_con ?_ | refine gi_bip (Nat.le_of_ble_eq_true rfl) ?_ | refine gi_sip (Nat.le_of_ble_eq_true rfl) ?_ | refine gi_ldc ?_ | refine gi_add ?_ | refine gi_inc rfl ?_ | refine gi_sub (by omega) ?_ | refine gi_mul ?_ | refine go_nx rfl ?_)
      refine go_jp rfl ?_
      first | refine gb_lt (by omega) (by omega) (fun c2 => ?_) (fun c2 => ?_) | refine gb_ge (by omega) (by omega) (fun c2 => ?_) (fun c2 => ?_) | refine gb_gt (by omega) (by omega) (fun c2 => ?_) (fun c2 => ?_) | refine gb_le (by omega) (by omega) (fun c2 => ?_) (fun c2 => ?_) | refine gb_eq (by omega) (by omega) (fun c2 => ?_) (fun c2 => ?_) | refine gb_ne (by omega) (by omega) (fun c2 => ?_) (fun c2 => ?_)
      · rw [decide_eq_false (by omega)] at hq
        repeat (first | refine gi_con ?_ | refine gi_bip (Nat.le_of_ble_eq_true rfl) ?_ | refine gi_sip (Nat.le_of_ble_eq_true rfl) ?_ | refine gi_ldc ?_ | refine gi_add ?_ | refine gi_inc rfl ?_ | refine gi_sub (by omega) ?_ | refine gi_mul ?_ | refine go_nx rfl ?_)
        refine go_jp rfl ?_
        refine go_rt rfl ?_
        exact hq
      · rw [decide_eq_true (by omega)] at hq
        repeat (first | refine gi_con ?_ | refine gi_bip (Nat.le_of_ble_eq_true rfl) ?_ | refine gi_sip (Nat.le_of_ble_eq_true rfl) ?_ | refine gi_ldc ?_ | refine gi_add ?_ | refine gi_inc rfl ?_ | refine gi_sub (by omega) ?_ | refine gi_mul ?_ | refine go_nx rfl ?_)
        refine go_jp rfl ?_
        refine go_rt rfl ?_
        exact hq
  repeat (first | refine gi_con ?_ | refine gi_bip (Nat.le_of_ble_eq_true rfl) ?_ | refine gi_sip (Nat.le_of_ble_eq_true rfl) ?_ | refine gi_ldc ?_ | refine gi_add ?_ | refine gi_inc rfl ?_ | refine gi_sub (by omega) ?_ | refine gi_mul ?_ | refine go_nx rfl ?_)
  first | refine gb_lt (by omega) (by omega) (fun c1 => ?_) (fun c1 => ?_) | refine gb_ge (by omega) (by omega) (fun c1 => ?_) (fun c1 => ?_) | refine gb_gt (by omega) (by omega) (fun c1 => ?_) (fun c1 => ?_) | refine gb_le (by omega) (by omega) (fun c1 => ?_) (fun c1 => ?_) | refine gb_eq (by omega) (by omega) (fun c1 => ?_) (fun c1 => ?_) | refine gb_ne (by omega) (by omega) (fun c1 => ?_) (fun c1 => ?_)
  · exact one (Or.inl c1)
  repeat (first | refine gi_con ?_ | refine gi_bip (Nat.le_of_ble_eq_true rfl) ?_ | refine gi_sip (Nat.le_of_ble_eq_true rfl) ?_ | refine gi_ldc ?_ | refine gi_add ?_ | refine gi_inc rfl ?_ | refine gi_sub (by omega) ?_ | refine gi_mul ?_ | refine go_nx rfl ?_)
  first | refine gb_lt (by omega) (by omega) (fun c2 => ?_) (fun c2 => ?_) | refine gb_ge (by omega) (by omega) (fun c2 => ?_) (fun c2 => ?_) | refine gb_gt (by omega) (by omega) (fun c2 => ?_) (fun c2 => ?_) | refine gb_le (by omega) (by omega) (fun c2 => ?_) (fun c2 => ?_) | refine gb_eq (by omega) (by omega) (fun c2 => ?_) (fun c2 => ?_) | refine gb_ne (by omega) (by omega) (fun c2 => ?_) (fun c2 => ?_)
  · repeat (first | refine gi_con ?_ | refine gi_bip (Nat.le_of_ble_eq_true rfl) ?_ | refine gi_sip (Nat.le_of_ble_eq_true rfl) ?_ | refine gi_ldc ?_ | refine gi_add ?_ | refine gi_inc rfl ?_ | refine gi_sub (by omega) ?_ | refine gi_mul ?_ | refine go_nx rfl ?_)
    first | refine gb_lt (by omega) (by omega) (fun c3 => ?_) (fun c3 => ?_) | refine gb_ge (by omega) (by omega) (fun c3 => ?_) (fun c3 => ?_) | refine gb_gt (by omega) (by omega) (fun c3 => ?_) (fun c3 => ?_) | refine gb_le (by omega) (by omega) (fun c3 => ?_) (fun c3 => ?_) | refine gb_eq (by omega) (by omega) (fun c3 => ?_) (fun c3 => ?_) | refine gb_ne (by omega) (by omega) (fun c3 => ?_) (fun c3 => ?_)
    · repeat (first | refine gi_con ?_ | refine gi_bip (Nat.le_of_ble_eq_true rfl) ?_ | refine gi_sip (Nat.le_of_ble_eq_true rfl) ?_ | refine gi_ldc ?_ | refine gi_add ?_ | refine gi_inc rfl ?_ | refine gi_sub (by omega) ?_ | refine gi_mul ?_ | refine go_nx rfl ?_)
      first | refine gb_lt (by omega) (by omega) (fun c4 => ?_) (fun c4 => ?_) | refine gb_ge (by omega) (by omega) (fun c4 => ?_) (fun c4 => ?_) | refine gb_gt (by omega) (by omega) (fun c4 => ?_) (fun c4 => ?_) | refine gb_le (by omega) (by omega) (fun c4 => ?_) (fun c4 => ?_) | refine gb_eq (by omega) (by omega) (fun c4 => ?_) (fun c4 => ?_) | refine gb_ne (by omega) (by omega) (fun c4 => ?_) (fun c4 => ?_)
      · have seventeen : (q_vok vb B p last && q_tx B p) = false → mm_Go E d 126 (mm_blk 126 17) [.ref o, .int (nI (B p)), .int (nI (b + q_val B p)), .int (nI (b + last)), .int (nI deep)] [] h Q := by
          intro e
          rw [e] at hq
          repeat (first | refine gi_con ?_ | refine gi_bip (Nat.le_of_ble_eq_true rfl) ?_ | refine gi_sip (Nat.le_of_ble_eq_true rfl) ?_ | refine gi_ldc ?_ | refine gi_add ?_ | refine gi_inc rfl ?_ | refine gi_sub (by omega) ?_ | refine gi_mul ?_ | refine go_nx rfl ?_)
          refine go_jp rfl ?_
          refine go_rt rfl ?_
          exact hq
        have sixteen : (q_vok vb B p last && q_tx B p) = true → mm_Go E d 126 (mm_blk 126 16) [.ref o, .int (nI (B p)), .int (nI (b + q_val B p)), .int (nI (b + last)), .int (nI deep)] [] h Q := by
          intro e
          rw [e] at hq
          repeat (first | refine gi_con ?_ | refine gi_bip (Nat.le_of_ble_eq_true rfl) ?_ | refine gi_sip (Nat.le_of_ble_eq_true rfl) ?_ | refine gi_ldc ?_ | refine gi_add ?_ | refine gi_inc rfl ?_ | refine gi_sub (by omega) ?_ | refine gi_mul ?_ | refine go_nx rfl ?_)
          refine go_jp rfl ?_
          refine go_rt rfl ?_
          exact hq
        have htx : q_tx B p = true := by unfold q_tx; rw [if_neg c4]
        rw [htx, Bool.and_true] at sixteen seventeen
        repeat (first | refine gi_con ?_ | refine gi_bip (Nat.le_of_ble_eq_true rfl) ?_ | refine gi_sip (Nat.le_of_ble_eq_true rfl) ?_ | refine gi_ldc ?_ | refine gi_add ?_ | refine gi_inc rfl ?_ | refine gi_sub (by omega) ?_ | refine gi_mul ?_ | refine go_nx rfl ?_)
        first | refine gb_lt (by omega) (by omega) (fun c5 => ?_) (fun c5 => ?_) | refine gb_ge (by omega) (by omega) (fun c5 => ?_) (fun c5 => ?_) | refine gb_gt (by omega) (by omega) (fun c5 => ?_) (fun c5 => ?_) | refine gb_le (by omega) (by omega) (fun c5 => ?_) (fun c5 => ?_) | refine gb_eq (by omega) (by omega) (fun c5 => ?_) (fun c5 => ?_) | refine gb_ne (by omega) (by omega) (fun c5 => ?_) (fun c5 => ?_)
        · exact sixteen (by unfold q_vok; rw [if_neg c1, if_neg c2, if_neg c3, if_neg c4, if_pos c5])
        · have e := q_vok_i (last := last) (vb := vb) c1 c2 c3 c4 c5
          have tail : ∀ (row : Bool), q_vok vb B p last = vb (q_val B p) last row → mm_Go E d 126 (mm_blk 126 15) [.ref o, .int (nI (B p)), .int (nI (b + q_val B p)), .int (nI (b + last)), .int (nI deep)] [.int (q_t row), .int (nI (deep + 1)), .int (nI (b + last)), .int (nI (b + q_val B p)), .ref o] h Q := by
            intro row hrow
            refine go_step ?_
            refine g_callV (by decide) (by decide) (Nat.le_of_ble_eq_true rfl) (Nat.le_of_ble_eq_true rfl) (mSt_rcv hm) (by omega) (Nat.le_of_ble_eq_true rfl) rfl ?_
            refine hbox row _ ?_
            repeat (first | refine gi_con ?_ | refine gi_bip (Nat.le_of_ble_eq_true rfl) ?_ | refine gi_sip (Nat.le_of_ble_eq_true rfl) ?_ | refine gi_ldc ?_ | refine gi_add ?_ | refine gi_inc rfl ?_ | refine gi_sub (by omega) ?_ | refine gi_mul ?_ | refine go_nx rfl ?_)
            first | refine gt_eq (fun c8 => ?_) (fun c8 => ?_) | refine gt_ne (fun c8 => ?_) (fun c8 => ?_)
            · exact seventeen (by rw [hrow]; exact c8)
            · refine go_jp rfl ?_
              exact sixteen (by rw [hrow]; exact c8)
          have thirteen : B p = 3 ∨ B p = 4 → mm_Go E d 126 (mm_blk 126 13) [.ref o, .int (nI (B p)), .int (nI (b + q_val B p)), .int (nI (b + last)), .int (nI deep)] [] h Q := by
            intro hk
            repeat (first | refine gi_con ?_ | refine gi_bip (Nat.le_of_ble_eq_true rfl) ?_ | refine gi_sip (Nat.le_of_ble_eq_true rfl) ?_ | refine gi_ldc ?_ | refine gi_add ?_ | refine gi_inc rfl ?_ | refine gi_sub (by omega) ?_ | refine gi_mul ?_ | refine go_nx rfl ?_)
            first | refine gb_lt (by omega) (by omega) (fun c7 => ?_) (fun c7 => ?_) | refine gb_ge (by omega) (by omega) (fun c7 => ?_) (fun c7 => ?_) | refine gb_gt (by omega) (by omega) (fun c7 => ?_) (fun c7 => ?_) | refine gb_le (by omega) (by omega) (fun c7 => ?_) (fun c7 => ?_) | refine gb_eq (by omega) (by omega) (fun c7 => ?_) (fun c7 => ?_) | refine gb_ne (by omega) (by omega) (fun c7 => ?_) (fun c7 => ?_)
            · rw [if_pos (hk.resolve_right c7)] at e
              repeat (first | refine gi_con ?_ | refine gi_bip (Nat.le_of_ble_eq_true rfl) ?_ | refine gi_sip (Nat.le_of_ble_eq_true rfl) ?_ | refine gi_ldc ?_ | refine gi_add ?_ | refine gi_inc rfl ?_ | refine gi_sub (by omega) ?_ | refine gi_mul ?_ | refine go_nx rfl ?_)
              refine go_jp rfl ?_
              exact tail false e
            · rw [if_neg (by omega), if_pos c7] at e
              repeat (first | refine gi_con ?_ | refine gi_bip (Nat.le_of_ble_eq_true rfl) ?_ | refine gi_sip (Nat.le_of_ble_eq_true rfl) ?_ | refine gi_ldc ?_ | refine gi_add ?_ | refine gi_inc rfl ?_ | refine gi_sub (by omega) ?_ | refine gi_mul ?_ | refine go_nx rfl ?_)
              refine go_jp rfl ?_
              exact tail true e
          repeat (first | refine gi_con ?_ | refine gi_bip (Nat.le_of_ble_eq_true rfl) ?_ | refine gi_sip (Nat.le_of_ble_eq_true rfl) ?_ | refine gi_ldc ?_ | refine gi_add ?_ | refine gi_inc rfl ?_ | refine gi_sub (by omega) ?_ | refine gi_mul ?_ | refine go_nx rfl ?_)
          first | refine gb_lt (by omega) (by omega) (fun c6 => ?_) (fun c6 => ?_) | refine gb_ge (by omega) (by omega) (fun c6 => ?_) (fun c6 => ?_) | refine gb_gt (by omega) (by omega) (fun c6 => ?_) (fun c6 => ?_) | refine gb_le (by omega) (by omega) (fun c6 => ?_) (fun c6 => ?_) | refine gb_eq (by omega) (by omega) (fun c6 => ?_) (fun c6 => ?_) | refine gb_ne (by omega) (by omega) (fun c6 => ?_) (fun c6 => ?_)
          · exact thirteen (Or.inl c6)
          repeat (first | refine gi_con ?_ | refine gi_bip (Nat.le_of_ble_eq_true rfl) ?_ | refine gi_sip (Nat.le_of_ble_eq_true rfl) ?_ | refine gi_ldc ?_ | refine gi_add ?_ | refine gi_inc rfl ?_ | refine gi_sub (by omega) ?_ | refine gi_mul ?_ | refine go_nx rfl ?_)
          first | refine gb_lt (by omega) (by omega) (fun c7 => ?_) (fun c7 => ?_) | refine gb_ge (by omega) (by omega) (fun c7 => ?_) (fun c7 => ?_) | refine gb_gt (by omega) (by omega) (fun c7 => ?_) (fun c7 => ?_) | refine gb_le (by omega) (by omega) (fun c7 => ?_) (fun c7 => ?_) | refine gb_eq (by omega) (by omega) (fun c7 => ?_) (fun c7 => ?_) | refine gb_ne (by omega) (by omega) (fun c7 => ?_) (fun c7 => ?_)
          · exact seventeen (by rw [e, if_neg c6, if_neg c7])
          · refine go_jp rfl ?_
            exact thirteen (Or.inr c7)
      · have hs := q_sz_lt hw.2.2.2.1 (q_val B p)
        have e : q_vok vb B p last = (decide (1 ≤ q_sz B (q_val B p)) && decide (q_val B p + 4 + q_sz B (q_val B p) ≤ last) && decide (B (q_val B p + 3 + q_sz B (q_val B p)) = 0)) := by
          unfold q_vok
          rw [if_neg c1, if_neg c2, if_neg c3, if_pos c4]
        have etx : q_tx B p = q_utf B (q_val B p + 3 + q_sz B (q_val B p)) (q_val B p + 3 + q_sz B (q_val B p) - (q_val B p + 4)) (q_val B p + 4) := by
          unfold q_tx
          rw [if_pos c4]
        have ten : (q_vok vb B p last && q_tx B p) = false → mm_Go E d 126 (mm_blk 126 10) [.ref o, .int (nI (B p)), .int (nI (b + q_val B p)), .int (nI (b + last)), .int (nI deep)] [] h Q := by
          intro e
          rw [e] at hq
          repeat (first | refine gi_con ?_ | refine gi_bip (Nat.le_of_ble_eq_true rfl) ?_ | refine gi_sip (Nat.le_of_ble_eq_true rfl) ?_ | refine gi_ldc ?_ | refine gi_add ?_ | refine gi_inc rfl ?_ | refine gi_sub (by omega) ?_ | refine gi_mul ?_ | refine go_nx rfl ?_)
          refine go_jp rfl ?_
          refine go_rt rfl ?_
          exact hq
        repeat (first | refine gi_con ?_ | refine gi_bip (Nat.le_of_ble_eq_true rfl) ?_ | refine gi_sip (Nat.le_of_ble_eq_true rfl) ?_ | refine gi_ldc ?_ | refine gi_add ?_ | refine gi_inc rfl ?_ | refine gi_sub (by omega) ?_ | refine gi_mul ?_ | refine go_nx rfl ?_)
        first | refine gb_lt (by omega) (by omega) (fun c5 => ?_) (fun c5 => ?_) | refine gb_ge (by omega) (by omega) (fun c5 => ?_) (fun c5 => ?_) | refine gb_gt (by omega) (by omega) (fun c5 => ?_) (fun c5 => ?_) | refine gb_le (by omega) (by omega) (fun c5 => ?_) (fun c5 => ?_) | refine gb_eq (by omega) (by omega) (fun c5 => ?_) (fun c5 => ?_) | refine gb_ne (by omega) (by omega) (fun c5 => ?_) (fun c5 => ?_)
        · refine ten ?_
          rw [e]
          by_cases h1 : 1 ≤ q_sz B (q_val B p)
          · rw [decide_eq_false (show ¬ q_val B p + 4 + q_sz B (q_val B p) ≤ last by omega), Bool.and_false]
            rfl
          · rw [decide_eq_false h1]
            rfl
        repeat (first | refine gi_con ?_ | refine gi_bip (Nat.le_of_ble_eq_true rfl) ?_ | refine gi_sip (Nat.le_of_ble_eq_true rfl) ?_ | refine gi_ldc ?_ | refine gi_add ?_ | refine gi_inc rfl ?_ | refine gi_sub (by omega) ?_ | refine gi_mul ?_ | refine go_nx rfl ?_)
        refine go_step ?_
        refine g_callV (by decide) (by decide) (Nat.le_of_ble_eq_true rfl) (Nat.le_of_ble_eq_true rfl) (mSt_rcv hm) (by omega) (Nat.le_of_ble_eq_true rfl) rfl ?_
        refine sp_mwh (by omega) hm hw (by omega) ?_
        by_cases hbig : 2 ^ 31 ≤ q_sz B (q_val B p)
        · refine gn_zle hbig hs ?_
          exact ten (by rw [e, decide_eq_false (show ¬ q_val B p + 4 + q_sz B (q_val B p) ≤ last by omega), Bool.and_false]; rfl)
        repeat (first | refine gi_con ?_ | refine gi_bip (Nat.le_of_ble_eq_true rfl) ?_ | refine gi_sip (Nat.le_of_ble_eq_true rfl) ?_ | refine gi_ldc ?_ | refine gi_add ?_ | refine gi_inc rfl ?_ | refine gi_sub (by omega) ?_ | refine gi_mul ?_ | refine go_nx rfl ?_)
        first | refine gz_eq (by omega) (fun c6 => ?_) (fun c6 => ?_) | refine gz_ne (by omega) (fun c6 => ?_) (fun c6 => ?_) | refine gz_le (by omega) (fun c6 => ?_) (fun c6 => ?_) | refine gz_gt (by omega) (fun c6 => ?_) (fun c6 => ?_) | refine gz_lt (by omega) (fun c6 => ?_) (fun c6 => ?_) | refine gz_ge (by omega) (fun c6 => ?_) (fun c6 => ?_)
        · exact ten (by rw [e, decide_eq_false (by omega)]; rfl)
        repeat (first | refine gi_con ?_ | refine gi_bip (Nat.le_of_ble_eq_true rfl) ?_ | refine gi_sip (Nat.le_of_ble_eq_true rfl) ?_ | refine gi_ldc ?_ | refine gi_add ?_ | refine gi_inc rfl ?_ | refine gi_sub (by omega) ?_ | refine gi_mul ?_ | refine go_nx rfl ?_)
        refine go_step ?_
        refine g_callV (by decide) (by decide) (Nat.le_of_ble_eq_true rfl) (Nat.le_of_ble_eq_true rfl) (mSt_rcv hm) (by omega) (Nat.le_of_ble_eq_true rfl) rfl ?_
        refine sp_mwh (by omega) hm hw (by omega) ?_
        repeat (first | refine gi_con ?_ | refine gi_bip (Nat.le_of_ble_eq_true rfl) ?_ | refine gi_sip (Nat.le_of_ble_eq_true rfl) ?_ | refine gi_ldc ?_ | refine gi_add ?_ | refine gi_inc rfl ?_ | refine gi_sub (by omega) ?_ | refine gi_mul ?_ | refine go_nx rfl ?_)
        first | refine gb_lt (by omega) (by omega) (fun c7 => ?_) (fun c7 => ?_) | refine gb_ge (by omega) (by omega) (fun c7 => ?_) (fun c7 => ?_) | refine gb_gt (by omega) (by omega) (fun c7 => ?_) (fun c7 => ?_) | refine gb_le (by omega) (by omega) (fun c7 => ?_) (fun c7 => ?_) | refine gb_eq (by omega) (by omega) (fun c7 => ?_) (fun c7 => ?_) | refine gb_ne (by omega) (by omega) (fun c7 => ?_) (fun c7 => ?_)
        · exact ten (by rw [e, decide_eq_false (show ¬ q_val B p + 4 + q_sz B (q_val B p) ≤ last by omega), Bool.and_false]; rfl)
        repeat (first | refine gi_con ?_ | refine gi_bip (Nat.le_of_ble_eq_true rfl) ?_ | refine gi_sip (Nat.le_of_ble_eq_true rfl) ?_ | refine gi_ldc ?_ | refine gi_add ?_ | refine gi_inc rfl ?_ | refine gi_sub (by omega) ?_ | refine gi_mul ?_ | refine go_nx rfl ?_)
        refine gm_gs hm rfl ?_
        repeat (first | refine gi_con ?_ | refine gi_bip (Nat.le_of_ble_eq_true rfl) ?_ | refine gi_sip (Nat.le_of_ble_eq_true rfl) ?_ | refine gi_ldc ?_ | refine gi_add ?_ | refine gi_inc rfl ?_ | refine gi_sub (by omega) ?_ | refine gi_mul ?_ | refine go_nx rfl ?_)
        refine go_step ?_
        refine g_callV (by decide) (by decide) (Nat.le_of_ble_eq_true rfl) (Nat.le_of_ble_eq_true rfl) (mSt_rcv hm) (by omega) (Nat.le_of_ble_eq_true rfl) rfl ?_
        refine sp_mwh (by omega) hm hw (by omega) ?_
        repeat (first | refine gi_con ?_ | refine gi_bip (Nat.le_of_ble_eq_true rfl) ?_ | refine gi_sip (Nat.le_of_ble_eq_true rfl) ?_ | refine gi_ldc ?_ | refine gi_add ?_ | refine gi_inc rfl ?_ | refine gi_sub (by omega) ?_ | refine gi_mul ?_ | refine go_nx rfl ?_)
        refine gm_ld hm (by omega) ?_
        rw [show b + q_val B p + 3 + q_sz B (q_val B p) = b + (q_val B p + 3 + q_sz B (q_val B p)) by omega, hw.1 _ (by omega)]
        refine gs_ne (hw.2.2.2.1 _) (fun c8 => ?_) (fun c8 => ?_)
        · exact ten (by rw [e, decide_eq_false c8, Bool.and_false]; rfl)
        repeat (first | refine gi_con ?_ | refine gi_bip (Nat.le_of_ble_eq_true rfl) ?_ | refine gi_sip (Nat.le_of_ble_eq_true rfl) ?_ | refine gi_ldc ?_ | refine gi_add ?_ | refine gi_inc rfl ?_ | refine gi_sub (by omega) ?_ | refine gi_mul ?_ | refine go_nx rfl ?_)
        refine go_step ?_
        refine g_callV (by decide) (by decide) (Nat.le_of_ble_eq_true rfl) (Nat.le_of_ble_eq_true rfl) (mSt_rcv hm) (by omega) (Nat.le_of_ble_eq_true rfl) rfl ?_
        refine sp_mwh (by omega) hm hw (by omega) ?_
        repeat (first | refine gi_con ?_ | refine gi_bip (Nat.le_of_ble_eq_true rfl) ?_ | refine gi_sip (Nat.le_of_ble_eq_true rfl) ?_ | refine gi_ldc ?_ | refine gi_add ?_ | refine gi_inc rfl ?_ | refine gi_sub (by omega) ?_ | refine gi_mul ?_ | refine go_nx rfl ?_)
        refine go_step ?_
        refine g_callV (by decide) (by decide) (Nat.le_of_ble_eq_true rfl) (Nat.le_of_ble_eq_true rfl) (mSt_rcv hm) (by omega) (Nat.le_of_ble_eq_true rfl) rfl ?_
        rw [show b + q_val B p + 3 + q_sz B (q_val B p) = b + (q_val B p + 3 + q_sz B (q_val B p)) by omega, Nat.add_assoc b (q_val B p) 4]
        refine sp_mtext (by omega) hm (fun j hj => hw.1 j (by omega)) (by omega) (by omega) hw.2.2.2.1 ?_
        rw [← etx]
        repeat (first | refine gi_con ?_ | refine gi_bip (Nat.le_of_ble_eq_true rfl) ?_ | refine gi_sip (Nat.le_of_ble_eq_true rfl) ?_ | refine gi_ldc ?_ | refine gi_add ?_ | refine gi_inc rfl ?_ | refine gi_sub (by omega) ?_ | refine gi_mul ?_ | refine go_nx rfl ?_)
        first | refine gt_eq (fun c9 => ?_) (fun c9 => ?_) | refine gt_ne (fun c9 => ?_) (fun c9 => ?_)
        · exact ten (by rw [c9, Bool.and_false])
        · rw [e, c9, decide_eq_true (by omega), decide_eq_true (by omega), decide_eq_true c8] at hq
          repeat (first | refine gi_con ?_ | refine gi_bip (Nat.le_of_ble_eq_true rfl) ?_ | refine gi_sip (Nat.le_of_ble_eq_true rfl) ?_ | refine gi_ldc ?_ | refine gi_add ?_ | refine gi_inc rfl ?_ | refine gi_sub (by omega) ?_ | refine gi_mul ?_ | refine go_nx rfl ?_)
          refine go_jp rfl ?_
          refine go_rt rfl ?_
          exact hq
    · have e : q_vok vb B p last = (decide (q_val B p + 1 ≤ last) && decide (B (q_val B p) < 2)) := by
        unfold q_vok
        rw [if_neg c1, if_neg c2, if_pos c3]
      rw [show q_tx B p = true from by unfold q_tx; rw [if_neg (by omega)], Bool.and_true, e] at hq
      repeat (first | refine gi_con ?_ | refine gi_bip (Nat.le_of_ble_eq_true rfl) ?_ | refine gi_sip (Nat.le_of_ble_eq_true rfl) ?_ | refine gi_ldc ?_ | refine gi_add ?_ | refine gi_inc rfl ?_ | refine gi_sub (by omega) ?_ | refine gi_mul ?_ | refine go_nx rfl ?_)
      first | refine gb_lt (by omega) (by omega) (fun c4 => ?_) (fun c4 => ?_) | refine gb_ge (by omega) (by omega) (fun c4 => ?_) (fun c4 => ?_) | refine gb_gt (by omega) (by omega) (fun c4 => ?_) (fun c4 => ?_) | refine gb_le (by omega) (by omega) (fun c4 => ?_) (fun c4 => ?_) | refine gb_eq (by omega) (by omega) (fun c4 => ?_) (fun c4 => ?_) | refine gb_ne (by omega) (by omega) (fun c4 => ?_) (fun c4 => ?_)
      · rw [decide_eq_false (by omega)] at hq
        repeat (first | refine gi_con ?_ | refine gi_bip (Nat.le_of_ble_eq_true rfl) ?_ | refine gi_sip (Nat.le_of_ble_eq_true rfl) ?_ | refine gi_ldc ?_ | refine gi_add ?_ | refine gi_inc rfl ?_ | refine gi_sub (by omega) ?_ | refine gi_mul ?_ | refine go_nx rfl ?_)
        refine go_jp rfl ?_
        refine go_rt rfl ?_
        exact hq
      repeat (first | refine gi_con ?_ | refine gi_bip (Nat.le_of_ble_eq_true rfl) ?_ | refine gi_sip (Nat.le_of_ble_eq_true rfl) ?_ | refine gi_ldc ?_ | refine gi_add ?_ | refine gi_inc rfl ?_ | refine gi_sub (by omega) ?_ | refine gi_mul ?_ | refine go_nx rfl ?_)
      refine go_step ?_
      refine g_callV (by decide) (by decide) (Nat.le_of_ble_eq_true rfl) (Nat.le_of_ble_eq_true rfl) (mSt_rcv hm) (by omega) (Nat.le_of_ble_eq_true rfl) rfl ?_
      refine sp_mat2 hm hw (by omega) ?_
      have := hw.2.2.2.1 (q_val B p)
      repeat (first | refine gi_con ?_ | refine gi_bip (Nat.le_of_ble_eq_true rfl) ?_ | refine gi_sip (Nat.le_of_ble_eq_true rfl) ?_ | refine gi_ldc ?_ | refine gi_add ?_ | refine gi_inc rfl ?_ | refine gi_sub (by omega) ?_ | refine gi_mul ?_ | refine go_nx rfl ?_)
      first | refine gb_lt (by omega) (by omega) (fun c5 => ?_) (fun c5 => ?_) | refine gb_ge (by omega) (by omega) (fun c5 => ?_) (fun c5 => ?_) | refine gb_gt (by omega) (by omega) (fun c5 => ?_) (fun c5 => ?_) | refine gb_le (by omega) (by omega) (fun c5 => ?_) (fun c5 => ?_) | refine gb_eq (by omega) (by omega) (fun c5 => ?_) (fun c5 => ?_) | refine gb_ne (by omega) (by omega) (fun c5 => ?_) (fun c5 => ?_)
      · rw [decide_eq_false (show ¬ B (q_val B p) < 2 by omega), Bool.and_false] at hq
        repeat (first | refine gi_con ?_ | refine gi_bip (Nat.le_of_ble_eq_true rfl) ?_ | refine gi_sip (Nat.le_of_ble_eq_true rfl) ?_ | refine gi_ldc ?_ | refine gi_add ?_ | refine gi_inc rfl ?_ | refine gi_sub (by omega) ?_ | refine gi_mul ?_ | refine go_nx rfl ?_)
        refine go_jp rfl ?_
        refine go_rt rfl ?_
        exact hq
      · rw [decide_eq_true (by omega), decide_eq_true c5] at hq
        repeat (first | refine gi_con ?_ | refine gi_bip (Nat.le_of_ble_eq_true rfl) ?_ | refine gi_sip (Nat.le_of_ble_eq_true rfl) ?_ | refine gi_ldc ?_ | refine gi_add ?_ | refine gi_inc rfl ?_ | refine gi_sub (by omega) ?_ | refine gi_mul ?_ | refine go_nx rfl ?_)
        refine go_jp rfl ?_
        refine go_rt rfl ?_
        exact hq
  · refine go_jp rfl ?_
    exact one (Or.inr c2)
theorem q_u8_tx (B : Nat → Nat) (p : Nat) : q_u8 B p = (q_utf B (q_ne B p) (q_ne B p - (p + 1)) (p + 1) && q_tx B p) := rfl
theorem sp_misbox : ∀ (k d : Nat) (v stop : Nat) (row : Bool) (Q : Option Value → mmH → Prop), 2 * k + 6 ≤ d → k ≤ 16 → mSt h o st R → mW R b n B → v ≤ stop → stop ≤ n → Q (some (.int (q_t (q_box (q_u8 B) B k v stop row)))) h → mm_Go E d 119 (mm_blk 119 0) [.ref o, .int (nI (b + v)), .int (nI (b + stop)), .int (nI (17 - k)), .int (q_t row), mm_un, mm_un, mm_un, mm_un, mm_un] [] h Q := by
  intro k
  induction k with
  | zero =>
    intro d v stop row Q hd hk hm hw hv hst hq
    have w2 := hw.2.1
    have one : mm_Go E d 119 (mm_blk 119 1) [.ref o, .int (nI (b + v)), .int (nI (b + stop)), .int (nI (17 - 0)), .int (q_t row), mm_un, mm_un, mm_un, mm_un, mm_un] [] h Q := by
      repeat (first | refine gi_con ?_ | refine gi_bip (Nat.le_of_ble_eq_true rfl) ?_ | refine gi_sip (Nat.le_of_ble_eq_true rfl) ?_ | refine gi_ldc ?_ | refine gi_add ?_ | refine gi_inc rfl ?_ | refine gi_sub (by omega) ?_ | refine gi_mul ?_ | refine go_nx rfl ?_)
      refine go_rt rfl ?_
      exact hq
    repeat (first | refine gi_con ?_ | refine gi_bip (Nat.le_of_ble_eq_true rfl) ?_ | refine gi_sip (Nat.le_of_ble_eq_true rfl) ?_ | refine gi_ldc ?_ | refine gi_add ?_ | refine gi_inc rfl ?_ | refine gi_sub (by omega) ?_ | refine gi_mul ?_ | refine go_nx rfl ?_)
    first | refine gb_lt (by omega) (by omega) (fun c => ?_) (fun c => ?_) | refine gb_ge (by omega) (by omega) (fun c => ?_) (fun c => ?_) | refine gb_gt (by omega) (by omega) (fun c => ?_) (fun c => ?_) | refine gb_le (by omega) (by omega) (fun c => ?_) (fun c => ?_) | refine gb_eq (by omega) (by omega) (fun c => ?_) (fun c => ?_) | refine gb_ne (by omega) (by omega) (fun c => ?_) (fun c => ?_)
    · exact one
    repeat (first | refine gi_con ?_ | refine gi_bip (Nat.le_of_ble_eq_true rfl) ?_ | refine gi_sip (Nat.le_of_ble_eq_true rfl) ?_ | refine gi_ldc ?_ | refine gi_add ?_ | refine gi_inc rfl ?_ | refine gi_sub (by omega) ?_ | refine gi_mul ?_ | refine go_nx rfl ?_)
    first | refine gb_lt (by omega) (by omega) (fun c => ?_) (fun c => ?_) | refine gb_ge (by omega) (by omega) (fun c => ?_) (fun c => ?_) | refine gb_gt (by omega) (by omega) (fun c => ?_) (fun c => ?_) | refine gb_le (by omega) (by omega) (fun c => ?_) (fun c => ?_) | refine gb_eq (by omega) (by omega) (fun c => ?_) (fun c => ?_) | refine gb_ne (by omega) (by omega) (fun c => ?_) (fun c => ?_)
    · omega
    · refine go_jp rfl ?_
      exact one
  | succ k ih =>
    intro d v stop row Q hd hk hm hw hv hst hq
    have w2 := hw.2.1
    have hrn := hw.2.2.1
    have hs := q_sz_lt hw.2.2.2.1 v
    unfold q_box at hq
    have one : q_box (q_u8 B) B (k + 1) v stop row = false → mm_Go E d 119 (mm_blk 119 1) [.ref o, .int (nI (b + v)), .int (nI (b + stop)), .int (nI (17 - (k + 1))), .int (q_t row), mm_un, mm_un, mm_un, mm_un, mm_un] [] h Q := by
      intro e
      unfold q_box at e
      rw [e] at hq
      repeat (first | refine gi_con ?_ | refine gi_bip (Nat.le_of_ble_eq_true rfl) ?_ | refine gi_sip (Nat.le_of_ble_eq_true rfl) ?_ | refine gi_ldc ?_ | refine gi_add ?_ | refine gi_inc rfl ?_ | refine gi_sub (by omega) ?_ | refine gi_mul ?_ | refine go_nx rfl ?_)
      refine go_rt rfl ?_
      exact hq
    have three : q_box (q_u8 B) B (k + 1) v stop row = false → mm_Go E d 119 (mm_blk 119 3) [.ref o, .int (nI (b + v)), .int (nI (b + stop)), .int (nI (17 - (k + 1))), .int (q_t row), .int (nI (q_sz B v)), mm_un, mm_un, mm_un, mm_un] [] h Q := by
      intro e
      unfold q_box at e
      rw [e] at hq
      repeat (first | refine gi_con ?_ | refine gi_bip (Nat.le_of_ble_eq_true rfl) ?_ | refine gi_sip (Nat.le_of_ble_eq_true rfl) ?_ | refine gi_ldc ?_ | refine gi_add ?_ | refine gi_inc rfl ?_ | refine gi_sub (by omega) ?_ | refine gi_mul ?_ | refine go_nx rfl ?_)
      refine go_rt rfl ?_
      exact hq
    repeat (first | refine gi_con ?_ | refine gi_bip (Nat.le_of_ble_eq_true rfl) ?_ | refine gi_sip (Nat.le_of_ble_eq_true rfl) ?_ | refine gi_ldc ?_ | refine gi_add ?_ | refine gi_inc rfl ?_ | refine gi_sub (by omega) ?_ | refine gi_mul ?_ | refine go_nx rfl ?_)
    first | refine gb_lt (by omega) (by omega) (fun c1 => ?_) (fun c1 => ?_) | refine gb_ge (by omega) (by omega) (fun c1 => ?_) (fun c1 => ?_) | refine gb_gt (by omega) (by omega) (fun c1 => ?_) (fun c1 => ?_) | refine gb_le (by omega) (by omega) (fun c1 => ?_) (fun c1 => ?_) | refine gb_eq (by omega) (by omega) (fun c1 => ?_) (fun c1 => ?_) | refine gb_ne (by omega) (by omega) (fun c1 => ?_) (fun c1 => ?_)
    · exact one (by unfold q_box; rw [decide_eq_false (by omega)]; rfl)
    repeat (first | refine gi_con ?_ | refine gi_bip (Nat.le_of_ble_eq_true rfl) ?_ | refine gi_sip (Nat.le_of_ble_eq_true rfl) ?_ | refine gi_ldc ?_ | refine gi_add ?_ | refine gi_inc rfl ?_ | refine gi_sub (by omega) ?_ | refine gi_mul ?_ | refine go_nx rfl ?_)
    first | refine gb_lt (by omega) (by omega) (fun c2 => ?_) (fun c2 => ?_) | refine gb_ge (by omega) (by omega) (fun c2 => ?_) (fun c2 => ?_) | refine gb_gt (by omega) (by omega) (fun c2 => ?_) (fun c2 => ?_) | refine gb_le (by omega) (by omega) (fun c2 => ?_) (fun c2 => ?_) | refine gb_eq (by omega) (by omega) (fun c2 => ?_) (fun c2 => ?_) | refine gb_ne (by omega) (by omega) (fun c2 => ?_) (fun c2 => ?_)
    · repeat (first | refine gi_con ?_ | refine gi_bip (Nat.le_of_ble_eq_true rfl) ?_ | refine gi_sip (Nat.le_of_ble_eq_true rfl) ?_ | refine gi_ldc ?_ | refine gi_add ?_ | refine gi_inc rfl ?_ | refine gi_sub (by omega) ?_ | refine gi_mul ?_ | refine go_nx rfl ?_)
      refine go_step ?_
      refine g_callV (by decide) (by decide) (Nat.le_of_ble_eq_true rfl) (Nat.le_of_ble_eq_true rfl) (mSt_rcv hm) (by omega) (Nat.le_of_ble_eq_true rfl) rfl ?_
      refine sp_mwh (by omega) hm hw (by omega) ?_
      repeat (first | refine gi_con ?_ | refine gi_bip (Nat.le_of_ble_eq_true rfl) ?_ | refine gi_sip (Nat.le_of_ble_eq_true rfl) ?_ | refine gi_ldc ?_ | refine gi_add ?_ | refine gi_inc rfl ?_ | refine gi_sub (by omega) ?_ | refine gi_mul ?_ | refine go_nx rfl ?_)
      by_cases hbig : 2 ^ 31 ≤ q_sz B v
      · refine gn_lt hbig hs (by omega) ?_
        exact three (by unfold q_box; rw [decide_eq_false (show ¬ v + q_sz B v ≤ stop by omega), Bool.and_false]; rfl)
      first | refine gb_lt (by omega) (by omega) (fun c3 => ?_) (fun c3 => ?_) | refine gb_ge (by omega) (by omega) (fun c3 => ?_) (fun c3 => ?_) | refine gb_gt (by omega) (by omega) (fun c3 => ?_) (fun c3 => ?_) | refine gb_le (by omega) (by omega) (fun c3 => ?_) (fun c3 => ?_) | refine gb_eq (by omega) (by omega) (fun c3 => ?_) (fun c3 => ?_) | refine gb_ne (by omega) (by omega) (fun c3 => ?_) (fun c3 => ?_)
      · exact three (by unfold q_box; rw [decide_eq_false (show ¬ 5 ≤ q_sz B v by omega), Bool.and_false]; rfl)
      repeat (first | refine gi_con ?_ | refine gi_bip (Nat.le_of_ble_eq_true rfl) ?_ | refine gi_sip (Nat.le_of_ble_eq_true rfl) ?_ | refine gi_ldc ?_ | refine gi_add ?_ | refine gi_inc rfl ?_ | refine gi_sub (by omega) ?_ | refine gi_mul ?_ | refine go_nx rfl ?_)
      first | refine gb_lt (by omega) (by omega) (fun c4 => ?_) (fun c4 => ?_) | refine gb_ge (by omega) (by omega) (fun c4 => ?_) (fun c4 => ?_) | refine gb_gt (by omega) (by omega) (fun c4 => ?_) (fun c4 => ?_) | refine gb_le (by omega) (by omega) (fun c4 => ?_) (fun c4 => ?_) | refine gb_eq (by omega) (by omega) (fun c4 => ?_) (fun c4 => ?_) | refine gb_ne (by omega) (by omega) (fun c4 => ?_) (fun c4 => ?_)
      · exact three (by unfold q_box; rw [decide_eq_false (show ¬ v + q_sz B v ≤ stop by omega), Bool.and_false]; rfl)
      repeat (first | refine gi_con ?_ | refine gi_bip (Nat.le_of_ble_eq_true rfl) ?_ | refine gi_sip (Nat.le_of_ble_eq_true rfl) ?_ | refine gi_ldc ?_ | refine gi_add ?_ | refine gi_inc rfl ?_ | refine gi_sub (by omega) ?_ | refine gi_mul ?_ | refine go_nx rfl ?_)
      refine gm_gs hm rfl ?_
      repeat (first | refine gi_con ?_ | refine gi_bip (Nat.le_of_ble_eq_true rfl) ?_ | refine gi_sip (Nat.le_of_ble_eq_true rfl) ?_ | refine gi_ldc ?_ | refine gi_add ?_ | refine gi_inc rfl ?_ | refine gi_sub (by omega) ?_ | refine gi_mul ?_ | refine go_nx rfl ?_)
      refine gm_ld hm (by omega) ?_
      rw [show b + v + q_sz B v - 1 = b + q_last B v by unfold q_last; omega, hw.1 _ (by unfold q_last; omega)]
      refine gs_eq (hw.2.2.2.1 _) (fun c5 => ?_) (fun c5 => ?_)
      · rw [decide_eq_true (show v + 5 ≤ stop by omega), decide_eq_true (show 5 ≤ q_sz B v by omega), decide_eq_true (show v + q_sz B v ≤ stop by omega), decide_eq_true c5, Bool.true_and, Bool.true_and, Bool.true_and, Bool.true_and] at hq
        have hlast : q_last B v < stop := by unfold q_last; omega
        have loop : ∀ (f p : Nat) (prev : List Nat) (x9 : Value), q_last B v < f + p → p ≤ q_last B v → q_run B p (v + 4) prev → (∀ x ∈ prev, q_ok B n x ∧ x < p) → 2 * prev.length ≤ p → Q (some (.int (q_t (q_ch (q_u8 B) (q_box (q_u8 B) B k) B row (q_last B v) f prev p)))) h → mm_Go E d 119 (mm_blk 119 5) [.ref o, .int (nI (b + v)), .int (nI (b + stop)), .int (nI (17 - (k + 1))), .int (q_t row), .int (nI (q_sz B v)), .int (nI (b + q_last B v)), .int (nI (b + p)), .int (nI prev.length), x9] [] h Q := by
          intro f
          induction f with
          | zero => intro p prev x9 hf hp; omega
          | succ f ihf =>
            intro p prev x9 hf hp hrun hprev hlen hq
            unfold q_ch at hq
            repeat (first | refine gi_con ?_ | refine gi_bip (Nat.le_of_ble_eq_true rfl) ?_ | refine gi_sip (Nat.le_of_ble_eq_true rfl) ?_ | refine gi_ldc ?_ | refine gi_add ?_ | refine gi_inc rfl ?_ | refine gi_sub (by omega) ?_ | refine gi_mul ?_ | refine go_nx rfl ?_)
            first | refine gb_lt (by omega) (by omega) (fun c6 => ?_) (fun c6 => ?_) | refine gb_ge (by omega) (by omega) (fun c6 => ?_) (fun c6 => ?_) | refine gb_gt (by omega) (by omega) (fun c6 => ?_) (fun c6 => ?_) | refine gb_le (by omega) (by omega) (fun c6 => ?_) (fun c6 => ?_) | refine gb_eq (by omega) (by omega) (fun c6 => ?_) (fun c6 => ?_) | refine gb_ne (by omega) (by omega) (fun c6 => ?_) (fun c6 => ?_)
            · rw [if_neg (by omega), decide_eq_true (by omega)] at hq
              repeat (first | refine gi_con ?_ | refine gi_bip (Nat.le_of_ble_eq_true rfl) ?_ | refine gi_sip (Nat.le_of_ble_eq_true rfl) ?_ | refine gi_ldc ?_ | refine gi_add ?_ | refine gi_inc rfl ?_ | refine gi_sub (by omega) ?_ | refine gi_mul ?_ | refine go_nx rfl ?_)
              refine go_rt rfl ?_
              exact hq
            rw [if_pos (by omega)] at hq
            have hnp := q_ne_is hw.2.2 (show p ≤ 2000 by omega)
            have hneL := q_ne_le hw.2.2 (show p + 1 ≤ n by omega)
            have eight : ∀ (x9 : Value), q_el (q_u8 B) (q_box (q_u8 B) B k) B row (q_last B v) prev p = false → mm_Go E d 119 (mm_blk 119 8) [.ref o, .int (nI (b + v)), .int (nI (b + stop)), .int (nI (17 - (k + 1))), .int (q_t row), .int (nI (q_sz B v)), .int (nI (b + q_last B v)), .int (nI (b + p)), .int (nI prev.length), x9] [] h Q := by
              intro x9 e
              rw [e] at hq
              repeat (first | refine gi_con ?_ | refine gi_bip (Nat.le_of_ble_eq_true rfl) ?_ | refine gi_sip (Nat.le_of_ble_eq_true rfl) ?_ | refine gi_ldc ?_ | refine gi_add ?_ | refine gi_inc rfl ?_ | refine gi_sub (by omega) ?_ | refine gi_mul ?_ | refine go_nx rfl ?_)
              refine go_rt rfl ?_
              exact hq
            have seven : ∀ e, (q_last B v ≤ e ∧ q_last B v ≤ q_ne B p ∨ e = q_ne B p) → e ≤ q_last B v → mm_Go E d 119 (mm_blk 119 7) [.ref o, .int (nI (b + v)), .int (nI (b + stop)), .int (nI (17 - (k + 1))), .int (q_t row), .int (nI (q_sz B v)), .int (nI (b + q_last B v)), .int (nI (b + p)), .int (nI prev.length), .int (nI (b + e))] [] h Q := by
              intro e he hel
              repeat (first | refine gi_con ?_ | refine gi_bip (Nat.le_of_ble_eq_true rfl) ?_ | refine gi_sip (Nat.le_of_ble_eq_true rfl) ?_ | refine gi_ldc ?_ | refine gi_add ?_ | refine gi_inc rfl ?_ | refine gi_sub (by omega) ?_ | refine gi_mul ?_ | refine go_nx rfl ?_)
              first | refine gb_lt (by omega) (by omega) (fun c7 => ?_) (fun c7 => ?_) | refine gb_ge (by omega) (by omega) (fun c7 => ?_) (fun c7 => ?_) | refine gb_gt (by omega) (by omega) (fun c7 => ?_) (fun c7 => ?_) | refine gb_le (by omega) (by omega) (fun c7 => ?_) (fun c7 => ?_) | refine gb_eq (by omega) (by omega) (fun c7 => ?_) (fun c7 => ?_) | refine gb_ne (by omega) (by omega) (fun c7 => ?_) (fun c7 => ?_)
              · exact eight _ (by unfold q_el; rw [decide_eq_false (by omega)]; rfl)
              have hee : e = q_ne B p := he.resolve_left (by omega)
              subst hee
              repeat (first | refine gi_con ?_ | refine gi_bip (Nat.le_of_ble_eq_true rfl) ?_ | refine gi_sip (Nat.le_of_ble_eq_true rfl) ?_ | refine gi_ldc ?_ | refine gi_add ?_ | refine gi_inc rfl ?_ | refine gi_sub (by omega) ?_ | refine gi_mul ?_ | refine go_nx rfl ?_)
              refine go_step ?_
              refine g_callV (by decide) (by decide) (Nat.le_of_ble_eq_true rfl) (Nat.le_of_ble_eq_true rfl) (mSt_rcv hm) (by omega) (Nat.le_of_ble_eq_true rfl) rfl ?_
              rw [Nat.add_assoc]
              refine sp_mtext (by omega) hm (fun j hj => hw.1 j (by omega)) (by omega) (by omega) hw.2.2.2.1 ?_
              repeat (first | refine gi_con ?_ | refine gi_bip (Nat.le_of_ble_eq_true rfl) ?_ | refine gi_sip (Nat.le_of_ble_eq_true rfl) ?_ | refine gi_ldc ?_ | refine gi_add ?_ | refine gi_inc rfl ?_ | refine gi_sub (by omega) ?_ | refine gi_mul ?_ | refine go_nx rfl ?_)
              first | refine gt_eq (fun c8 => ?_) (fun c8 => ?_) | refine gt_ne (fun c8 => ?_) (fun c8 => ?_)
              · exact eight _ (by unfold q_el; rw [q_u8_tx, c8, Bool.false_and, Bool.and_false])
              repeat (first | refine gi_con ?_ | refine gi_bip (Nat.le_of_ble_eq_true rfl) ?_ | refine gi_sip (Nat.le_of_ble_eq_true rfl) ?_ | refine gi_ldc ?_ | refine gi_add ?_ | refine gi_inc rfl ?_ | refine gi_sub (by omega) ?_ | refine gi_mul ?_ | refine go_nx rfl ?_)
              refine go_step ?_
              refine g_callV (by decide) (by decide) (Nat.le_of_ble_eq_true rfl) (Nat.le_of_ble_eq_true rfl) (mSt_rcv hm) (by omega) (Nat.le_of_ble_eq_true rfl) rfl ?_
              refine sp_misname (by omega) hm hw (by omega) (by omega) hrun hprev (by omega) ?_
              repeat (first | refine gi_con ?_ | refine gi_bip (Nat.le_of_ble_eq_true rfl) ?_ | refine gi_sip (Nat.le_of_ble_eq_true rfl) ?_ | refine gi_ldc ?_ | refine gi_add ?_ | refine gi_inc rfl ?_ | refine gi_sub (by omega) ?_ | refine gi_mul ?_ | refine go_nx rfl ?_)
              first | refine gt_eq (fun c9 => ?_) (fun c9 => ?_) | refine gt_ne (fun c9 => ?_) (fun c9 => ?_)
              · exact eight _ (by unfold q_el; rw [c9, Bool.and_false]; rfl)
              repeat (first | refine gi_con ?_ | refine gi_bip (Nat.le_of_ble_eq_true rfl) ?_ | refine gi_sip (Nat.le_of_ble_eq_true rfl) ?_ | refine gi_ldc ?_ | refine gi_add ?_ | refine gi_inc rfl ?_ | refine gi_sub (by omega) ?_ | refine gi_mul ?_ | refine go_nx rfl ?_)
              refine go_step ?_
              refine g_callV (by decide) (by decide) (Nat.le_of_ble_eq_true rfl) (Nat.le_of_ble_eq_true rfl) (mSt_rcv hm) (by omega) (Nat.le_of_ble_eq_true rfl) rfl ?_
              refine sp_mat2 hm hw (by omega) ?_
              repeat (first | refine gi_con ?_ | refine gi_bip (Nat.le_of_ble_eq_true rfl) ?_ | refine gi_sip (Nat.le_of_ble_eq_true rfl) ?_ | refine gi_ldc ?_ | refine gi_add ?_ | refine gi_inc rfl ?_ | refine gi_sub (by omega) ?_ | refine gi_mul ?_ | refine go_nx rfl ?_)
              refine go_step ?_
              refine g_callV (by decide) (by decide) (Nat.le_of_ble_eq_true rfl) (Nat.le_of_ble_eq_true rfl) (mSt_rcv hm) (by omega) (Nat.le_of_ble_eq_true rfl) rfl ?_
              refine sp_misval (vb := q_box (q_u8 B) B k) (by omega) hm hw (by omega) (by omega) (by omega) (fun row' Q' hq' => ?_) ?_
              · rw [show 17 - (k + 1) + 1 = 17 - k by omega]
                exact ih (d - 1 - 1) (q_val B p) (q_last B v) row' Q' (by omega) (by omega) hm hw (by unfold q_val; omega) (by omega) hq'
              have he2 : q_el (q_u8 B) (q_box (q_u8 B) B k) B row (q_last B v) prev p = (q_vok (q_box (q_u8 B) B k) B p (q_last B v) && q_tx B p) := by
                unfold q_el
                rw [q_u8_tx, c8, c9, decide_eq_true (by omega), Bool.true_and, Bool.true_and, Bool.true_and]
              repeat (first | refine gi_con ?_ | refine gi_bip (Nat.le_of_ble_eq_true rfl) ?_ | refine gi_sip (Nat.le_of_ble_eq_true rfl) ?_ | refine gi_ldc ?_ | refine gi_add ?_ | refine gi_inc rfl ?_ | refine gi_sub (by omega) ?_ | refine gi_mul ?_ | refine go_nx rfl ?_)
              first | refine gt_eq (fun c10 => ?_) (fun c10 => ?_) | refine gt_ne (fun c10 => ?_) (fun c10 => ?_)
              · rw [he2, c10, Bool.true_and] at hq
                rw [Bool.and_eq_true] at c10
                have hvk := q_vok_ok (show q_ne B p < q_last B v by omega) c10.1
                have hok : q_ok B n p := ⟨by omega, by omega, by omega, hvk.2⟩
                obtain ⟨i1, i2, i3⟩ := q_ok_in hw.2.2 hok
                repeat (first | refine gi_con ?_ | refine gi_bip (Nat.le_of_ble_eq_true rfl) ?_ | refine gi_sip (Nat.le_of_ble_eq_true rfl) ?_ | refine gi_ldc ?_ | refine gi_add ?_ | refine gi_inc rfl ?_ | refine gi_sub (by omega) ?_ | refine gi_mul ?_ | refine go_nx rfl ?_)
                refine go_step ?_
                refine g_callV (by decide) (by decide) (Nat.le_of_ble_eq_true rfl) (Nat.le_of_ble_eq_true rfl) (mSt_rcv hm) (by omega) (Nat.le_of_ble_eq_true rfl) rfl ?_
                refine sp_mat2 hm hw (by omega) ?_
                repeat (first | refine gi_con ?_ | refine gi_bip (Nat.le_of_ble_eq_true rfl) ?_ | refine gi_sip (Nat.le_of_ble_eq_true rfl) ?_ | refine gi_ldc ?_ | refine gi_add ?_ | refine gi_inc rfl ?_ | refine gi_sub (by omega) ?_ | refine gi_mul ?_ | refine go_nx rfl ?_)
                refine go_step ?_
                refine g_callV (by decide) (by decide) (Nat.le_of_ble_eq_true rfl) (Nat.le_of_ble_eq_true rfl) (mSt_rcv hm) (by omega) (Nat.le_of_ble_eq_true rfl) rfl ?_
                refine sp_mbeh (k := q_val B p) (by omega) hm hw (hw.2.2.2.1 p) (by omega) i3 ?_
                repeat (first | refine gi_con ?_ | refine gi_bip (Nat.le_of_ble_eq_true rfl) ?_ | refine gi_sip (Nat.le_of_ble_eq_true rfl) ?_ | refine gi_ldc ?_ | refine gi_add ?_ | refine gi_inc rfl ?_ | refine gi_sub (by omega) ?_ | refine gi_mul ?_ | refine go_nx rfl ?_)
                refine go_jp rfl ?_
                have e1 : b + q_val B p + q_ln B (B p) (q_val B p) = b + q_next B p := by unfold q_next; omega
                rw [e1]
                have hl2 : (prev ++ [p]).length = prev.length + 1 := by rw [List.length_append]; rfl
                have := ihf (q_next B p) (prev ++ [p]) (.int (nI (b + q_ne B p))) (by omega) (by omega) (q_run_snoc hrun) (fun x hx => ?_) (by rw [hl2]; omega) hq
                · rw [hl2] at this
                  exact this
                · rcases List.mem_append.mp hx with hx | hx
                  · exact ⟨(hprev x hx).1, by have := (hprev x hx).2; omega⟩
                  · rw [List.mem_singleton.mp hx]
                    exact ⟨hok, by omega⟩
              · refine go_jp rfl ?_
                exact eight _ (by rw [he2]; exact c10)
            have scan : ∀ (g e : Nat), g + e = q_last B v → p + 1 ≤ e → e ≤ q_ne B p → mm_Go E d 119 (mm_blk 119 6) [.ref o, .int (nI (b + v)), .int (nI (b + stop)), .int (nI (17 - (k + 1))), .int (q_t row), .int (nI (q_sz B v)), .int (nI (b + q_last B v)), .int (nI (b + p)), .int (nI prev.length), .int (nI (b + e))] [] h Q := by
              intro g
              induction g with
              | zero =>
                intro e hg he1 he2
                repeat (first | refine gi_con ?_ | refine gi_bip (Nat.le_of_ble_eq_true rfl) ?_ | refine gi_sip (Nat.le_of_ble_eq_true rfl) ?_ | refine gi_ldc ?_ | refine gi_add ?_ | refine gi_inc rfl ?_ | refine gi_sub (by omega) ?_ | refine gi_mul ?_ | refine go_nx rfl ?_)
                first | refine gb_lt (by omega) (by omega) (fun c7 => ?_) (fun c7 => ?_) | refine gb_ge (by omega) (by omega) (fun c7 => ?_) (fun c7 => ?_) | refine gb_gt (by omega) (by omega) (fun c7 => ?_) (fun c7 => ?_) | refine gb_le (by omega) (by omega) (fun c7 => ?_) (fun c7 => ?_) | refine gb_eq (by omega) (by omega) (fun c7 => ?_) (fun c7 => ?_) | refine gb_ne (by omega) (by omega) (fun c7 => ?_) (fun c7 => ?_)
                · exact seven e (Or.inl ⟨by omega, by omega⟩) (by omega)
                · omega
              | succ g ihg =>
                intro e hg he1 he2
                repeat (first | refine gi_con ?_ | refine gi_bip (Nat.le_of_ble_eq_true rfl) ?_ | refine gi_sip (Nat.le_of_ble_eq_true rfl) ?_ | refine gi_ldc ?_ | refine gi_add ?_ | refine gi_inc rfl ?_ | refine gi_sub (by omega) ?_ | refine gi_mul ?_ | refine go_nx rfl ?_)
                first | refine gb_lt (by omega) (by omega) (fun c7 => ?_) (fun c7 => ?_) | refine gb_ge (by omega) (by omega) (fun c7 => ?_) (fun c7 => ?_) | refine gb_gt (by omega) (by omega) (fun c7 => ?_) (fun c7 => ?_) | refine gb_le (by omega) (by omega) (fun c7 => ?_) (fun c7 => ?_) | refine gb_eq (by omega) (by omega) (fun c7 => ?_) (fun c7 => ?_) | refine gb_ne (by omega) (by omega) (fun c7 => ?_) (fun c7 => ?_)
                · omega
                repeat (first | refine gi_con ?_ | refine gi_bip (Nat.le_of_ble_eq_true rfl) ?_ | refine gi_sip (Nat.le_of_ble_eq_true rfl) ?_ | refine gi_ldc ?_ | refine gi_add ?_ | refine gi_inc rfl ?_ | refine gi_sub (by omega) ?_ | refine gi_mul ?_ | refine go_nx rfl ?_)
                refine gm_gs hm rfl ?_
                repeat (first | refine gi_con ?_ | refine gi_bip (Nat.le_of_ble_eq_true rfl) ?_ | refine gi_sip (Nat.le_of_ble_eq_true rfl) ?_ | refine gi_ldc ?_ | refine gi_add ?_ | refine gi_inc rfl ?_ | refine gi_sub (by omega) ?_ | refine gi_mul ?_ | refine go_nx rfl ?_)
                refine gm_ld hm (by omega) ?_
                rw [hw.1 _ (by omega)]
                refine gs_eq (hw.2.2.2.1 _) (fun c8 => ?_) (fun c8 => ?_)
                · refine seven e (Or.inr ?_) (by omega)
                  by_cases hlt : e < q_ne B p
                  · exact absurd c8 (hnp.2.2 e he1 hlt)
                  · omega
                · repeat (first | refine gi_con ?_ | refine gi_bip (Nat.le_of_ble_eq_true rfl) ?_ | refine gi_sip (Nat.le_of_ble_eq_true rfl) ?_ | refine gi_ldc ?_ | refine gi_add ?_ | refine gi_inc rfl ?_ | refine gi_sub (by omega) ?_ | refine gi_mul ?_ | refine go_nx rfl ?_)
                  refine go_jp rfl ?_
                  rw [Nat.add_assoc]
                  refine ihg (e + 1) (by omega) (by omega) ?_
                  by_cases hlt : e < q_ne B p
                  · exact hlt
                  · exact absurd (show B e = 0 by rw [show e = q_ne B p by omega]; exact hnp.2.1) c8
            repeat (first | refine gi_con ?_ | refine gi_bip (Nat.le_of_ble_eq_true rfl) ?_ | refine gi_sip (Nat.le_of_ble_eq_true rfl) ?_ | refine gi_ldc ?_ | refine gi_add ?_ | refine gi_inc rfl ?_ | refine gi_sub (by omega) ?_ | refine gi_mul ?_ | refine go_nx rfl ?_)
            refine go_jp rfl ?_
            rw [Nat.add_assoc]
            exact scan (q_last B v - (p + 1)) (p + 1) (by omega) (by omega) (by omega)
        repeat (first | refine gi_con ?_ | refine gi_bip (Nat.le_of_ble_eq_true rfl) ?_ | refine gi_sip (Nat.le_of_ble_eq_true rfl) ?_ | refine gi_ldc ?_ | refine gi_add ?_ | refine gi_inc rfl ?_ | refine gi_sub (by omega) ?_ | refine gi_mul ?_ | refine go_nx rfl ?_)
        refine go_jp rfl ?_
        rw [show b + v + q_sz B v - 1 = b + q_last B v by unfold q_last; omega, Nat.add_assoc]
        exact loop 2001 (v + 4) [] _ (by omega) (by unfold q_last; omega) rfl (fun x hx => by cases hx) (by simp) hq
      · refine go_jp rfl ?_
        exact three (by unfold q_box; rw [decide_eq_false c5, Bool.and_false]; rfl)
    · omega
theorem sp_misdoc (hd : 40 ≤ d) (hm : mSt h o st R) (hw : mW R 20000 n B) (hq : Q (some (.int (q_t (q_doc B n)))) h) : mm_Go E d 117 (mm_blk 117 0) [.ref o, .int (nI n)] [] h Q := by
  have w2 := hw.2.1
  have hs := q_sz_lt hw.2.2.2.1 0
  have one : q_doc B n = false → mm_Go E d 117 (mm_blk 117 1) [.ref o, .int (nI n)] [] h Q := by
    intro e
    rw [e] at hq
    repeat (first | refine gi_con ?_ | refine gi_bip (Nat.le_of_ble_eq_true rfl) ?_ | refine gi_sip (Nat.le_of_ble_eq_true rfl) ?_ | refine gi_ldc ?_ | refine gi_add ?_ | refine gi_inc rfl ?_ | refine gi_sub (by omega) ?_ | refine gi_mul ?_ | refine go_nx rfl ?_)
    refine go_jp rfl ?_
    refine go_rt rfl ?_
    exact hq
  unfold q_doc at one hq
  repeat (first | refine gi_con ?_ | refine gi_bip (Nat.le_of_ble_eq_true rfl) ?_ | refine gi_sip (Nat.le_of_ble_eq_true rfl) ?_ | refine gi_ldc ?_ | refine gi_add ?_ | refine gi_inc rfl ?_ | refine gi_sub (by omega) ?_ | refine gi_mul ?_ | refine go_nx rfl ?_)
  first | refine gb_lt (by omega) (by omega) (fun c1 => ?_) (fun c1 => ?_) | refine gb_ge (by omega) (by omega) (fun c1 => ?_) (fun c1 => ?_) | refine gb_gt (by omega) (by omega) (fun c1 => ?_) (fun c1 => ?_) | refine gb_le (by omega) (by omega) (fun c1 => ?_) (fun c1 => ?_) | refine gb_eq (by omega) (by omega) (fun c1 => ?_) (fun c1 => ?_) | refine gb_ne (by omega) (by omega) (fun c1 => ?_) (fun c1 => ?_)
  · refine one ?_
    by_cases e : q_sz B 0 = n
    · rw [decide_eq_true e, Bool.true_and]
      unfold q_box
      rw [decide_eq_false (show ¬ 0 + 5 ≤ n by omega)]
      rfl
    · rw [decide_eq_false e]
      rfl
  repeat (first | refine gi_con ?_ | refine gi_bip (Nat.le_of_ble_eq_true rfl) ?_ | refine gi_sip (Nat.le_of_ble_eq_true rfl) ?_ | refine gi_ldc ?_ | refine gi_add ?_ | refine gi_inc rfl ?_ | refine gi_sub (by omega) ?_ | refine gi_mul ?_ | refine go_nx rfl ?_)
  refine go_step ?_
  refine g_callV (by decide) (by decide) (Nat.le_of_ble_eq_true rfl) (Nat.le_of_ble_eq_true rfl) (mSt_rcv hm) (by omega) (Nat.le_of_ble_eq_true rfl) rfl ?_
  refine sp_mwh (v := 0) (by omega) hm hw (by omega) ?_
  repeat (first | refine gi_con ?_ | refine gi_bip (Nat.le_of_ble_eq_true rfl) ?_ | refine gi_sip (Nat.le_of_ble_eq_true rfl) ?_ | refine gi_ldc ?_ | refine gi_add ?_ | refine gi_inc rfl ?_ | refine gi_sub (by omega) ?_ | refine gi_mul ?_ | refine go_nx rfl ?_)
  refine go_br (c := decide (¬ nI (q_sz B 0) = nI n)) rfl (fun c => ?_) (fun c => ?_)
  · exact one (by rw [decide_eq_false (fun q => of_decide_eq_true c (by rw [q]))]; rfl)
  · have e : q_sz B 0 = n := by
      have c1 := Classical.not_not.mp (of_decide_eq_false c)
      have c2 := congrArg (fun x : Int32 => x.toBitVec.toNat) c1
      rw [pk_tn hs, pk_tn (by omega)] at c2
      exact c2
    rw [decide_eq_true e, Bool.true_and] at hq one
    repeat (first | refine gi_con ?_ | refine gi_bip (Nat.le_of_ble_eq_true rfl) ?_ | refine gi_sip (Nat.le_of_ble_eq_true rfl) ?_ | refine gi_ldc ?_ | refine gi_add ?_ | refine gi_inc rfl ?_ | refine gi_sub (by omega) ?_ | refine gi_mul ?_ | refine go_nx rfl ?_)
    refine go_step ?_
    refine g_callV (by decide) (by decide) (Nat.le_of_ble_eq_true rfl) (Nat.le_of_ble_eq_true rfl) (mSt_rcv hm) (by omega) (Nat.le_of_ble_eq_true rfl) rfl ?_
    refine sp_misbox (b := 20000) 16 (d - 1) 0 n false _ (by omega) (by omega) hm hw (by omega) (by omega) ?_
    repeat (first | refine gi_con ?_ | refine gi_bip (Nat.le_of_ble_eq_true rfl) ?_ | refine gi_sip (Nat.le_of_ble_eq_true rfl) ?_ | refine gi_ldc ?_ | refine gi_add ?_ | refine gi_inc rfl ?_ | refine gi_sub (by omega) ?_ | refine gi_mul ?_ | refine go_nx rfl ?_)
    first | refine gt_eq (fun c3 => ?_) (fun c3 => ?_) | refine gt_ne (fun c3 => ?_) (fun c3 => ?_)
    · exact one c3
    · rw [c3] at hq
      repeat (first | refine gi_con ?_ | refine gi_bip (Nat.le_of_ble_eq_true rfl) ?_ | refine gi_sip (Nat.le_of_ble_eq_true rfl) ?_ | refine gi_ldc ?_ | refine gi_add ?_ | refine gi_inc rfl ?_ | refine gi_sub (by omega) ?_ | refine gi_mul ?_ | refine go_nx rfl ?_)
      refine go_jp rfl ?_
      refine go_rt rfl ?_
      exact hq
end M
