section M
variable {E : mmE} {h : mmH} {o n b : Nat} {ad : Nat → Nat} {I : Nat → Int32} {C : Nat → Nat → Int32} {R B : Nat → Nat}
theorem q_word_0 {e : Nat} (hr : q_row B n) (he : e ≤ 2000) : q_word B e = 0 ↔ B (e + 1) ≠ 36 := by
  obtain ⟨h1, h2, h3⟩ := q_ne_is hr he
  unfold q_word
  by_cases h : B (e + 1) = 36
  · rw [if_neg (by
      intro q
      rcases q with q | q
      · have : q_ne B e = e + 1 := by omega
        rw [this, h] at h2
        cases h2
      · exact q h)]
    refine ⟨fun q => ?_, fun q => absurd h q⟩
    split at q <;> omega
  · rw [if_pos (Or.inr h)]
    exact ⟨fun _ => h, fun _ => rfl⟩
theorem q_join_0 {e : Nat} (h : q_word B e = 0) : q_join B e = false := by
  unfold q_join
  rw [h]
  rfl
theorem sp_mlookJoin {d : Nat} {Q : Option Value → mmH → Prop} {e c lev last : Nat} {X : Nat → Nat → Nat × Nat} (hd : 5 ≤ d) (hD : mD o ad) (hC : ∀ j, j < 22100 → C 1 j = sb_b (R j)) (hR : ∀ j, R j < 256) (hw : mW R b n B) (hok : q_ok B n e) (hln : last ≤ n) (hbx : B e = 4 → q_box (q_u8 B) B lev (q_val B e) last true = true) (hc : c ≤ 100)
    (hle : ∀ i c, c ≤ 100 → q_le1 (X i c))
    (hX : ∀ (i c : Nat) (Q' : Option Value → mmH → Prop), B i = 3 → q_ok B n i → (∃ lev', lev = lev' + 2 ∧ q_box (q_u8 B) B (lev' + 1) (q_val B i) (q_last B (q_val B e)) false = true) → q_last B (q_val B e) ≤ n → c ≤ 100 → mEnd h o ad I C Q' (X i c) → mm_Go E (d - 1) 127 (mm_blk 127 0) [.ref o, .int (nI (b + q_val B i)), mm_un] [] (mH h o ad (mI I c 0) C) Q')
    (hq : mEnd h o ad I C Q (if q_join B e = false then (1, c) else if B e ≠ 4 ∨ q_sz B (q_val B e) = 5 then (2, c) else q_then (q_cnt c 1) (fun c => q_lp B (q_last B (q_val B e)) (fun i c => if B i = 3 then X i c else (2, c)) 2001 (q_val B e + 4) c))) : mm_Go E d 129 (mm_blk 129 0) [.ref o, .int (nI (b + e)), mm_un, mm_un] [] (mH h o ad (mI I c 0) C) Q := by
  have w2 := hw.2.1
  have hrn := hw.2.2.1
  have hm : ∀ I, mSt (mH h o ad I C) o (ad 1) R := fun I => mH_st hD hC hR
  have hne := q_ne_is hw.2.2 (show e ≤ 2000 by have := hok.1; omega)
  obtain ⟨i1, i2, i3⟩ := q_ok_in hw.2.2 hok
  have hBe := hw.2.2.2.1 e
  have gone : ∀ (f c1 : Nat) (x3 : Value), 0 < f → f < 100 → Q none (mH h o ad (mI I c1 f) C) → mm_Go E d 129 (mm_blk 129 4) [.ref o, .int (nI (b + e)), .int (nI (b + q_val B e)), x3] [] (mH h o ad (mI I c1 f) C) Q := by
    intro f c1 x3 h1 h2 hq
    repeat (first | refine gi_con ?_ | refine gi_bip (Nat.le_of_ble_eq_true rfl) ?_ | refine gi_sip (Nat.le_of_ble_eq_true rfl) ?_ | refine gi_ldc ?_ | refine gi_add ?_ | refine gi_inc rfl ?_ | refine gi_sub (by omega) ?_ | refine gi_mul ?_ | refine go_nx rfl ?_)
    refine gm_get (.int (nI f)) rfl rfl ?_
    first | refine gz_eq (by omega) (fun c2 => ?_) (fun c2 => ?_) | refine gz_ne (by omega) (fun c2 => ?_) (fun c2 => ?_) | refine gz_le (by omega) (fun c2 => ?_) (fun c2 => ?_) | refine gz_gt (by omega) (fun c2 => ?_) (fun c2 => ?_) | refine gz_lt (by omega) (fun c2 => ?_) (fun c2 => ?_) | refine gz_ge (by omega) (fun c2 => ?_) (fun c2 => ?_)
    · refine go_rt rfl ?_
      exact hq
    · omega
  have hle2 : ∀ i c, c ≤ 100 → q_le1 (if B i = 3 then X i c else (2, c)) := by
    intro i c hc
    split
    · exact hle i c hc
    · exact q_le_f (by omega)
  have loop : ∀ (lev' : Nat), lev = lev' + 1 → 5 ≤ q_sz B (q_val B e) → q_last B (q_val B e) < n → ∀ (f i idx c : Nat), q_last B (q_val B e) < f + i → q_at (q_u8 B) lev' B true (q_last B (q_val B e)) i idx → c ≤ 100 → mEnd h o ad I C Q (q_lp B (q_last B (q_val B e)) (fun i c => if B i = 3 then X i c else (2, c)) f i c) → mm_Go E d 129 (mm_blk 129 4) [.ref o, .int (nI (b + e)), .int (nI (b + q_val B e)), .int (nI (b + i))] [] (mH h o ad (mI I c 0) C) Q := by
    intro lev' hlev hsz hlastn f
    induction f with
    | zero =>
      intro i idx c hf hat
      have := q_at_le hat
      omega
    | succ f ih =>
      intro i idx c hf hat hc hq
      have hil := q_at_le hat
      unfold q_lp at hq
      repeat (first | refine gi_con ?_ | refine gi_bip (Nat.le_of_ble_eq_true rfl) ?_ | refine gi_sip (Nat.le_of_ble_eq_true rfl) ?_ | refine gi_ldc ?_ | refine gi_add ?_ | refine gi_inc rfl ?_ | refine gi_sub (by omega) ?_ | refine gi_mul ?_ | refine go_nx rfl ?_)
      refine gm_get (.int (nI 0)) rfl rfl ?_
      first | refine gz_eq (by omega) (fun c1 => ?_) (fun c1 => ?_) | refine gz_ne (by omega) (fun c1 => ?_) (fun c1 => ?_) | refine gz_le (by omega) (fun c1 => ?_) (fun c1 => ?_) | refine gz_gt (by omega) (fun c1 => ?_) (fun c1 => ?_) | refine gz_lt (by omega) (fun c1 => ?_) (fun c1 => ?_) | refine gz_ge (by omega) (fun c1 => ?_) (fun c1 => ?_)
      · omega
      repeat (first | refine gi_con ?_ | refine gi_bip (Nat.le_of_ble_eq_true rfl) ?_ | refine gi_sip (Nat.le_of_ble_eq_true rfl) ?_ | refine gi_ldc ?_ | refine gi_add ?_ | refine gi_inc rfl ?_ | refine gi_sub (by omega) ?_ | refine gi_mul ?_ | refine go_nx rfl ?_)
      refine go_step ?_
      refine g_callV (by decide) (by decide) (Nat.le_of_ble_eq_true rfl) (Nat.le_of_ble_eq_true rfl) mH_rcv (by omega) (Nat.le_of_ble_eq_true rfl) rfl ?_
      refine sp_mlast (by omega) (hm _) hw (by unfold q_last at hlastn; omega) (by omega) ?_
      repeat (first | refine gi_con ?_ | refine gi_bip (Nat.le_of_ble_eq_true rfl) ?_ | refine gi_sip (Nat.le_of_ble_eq_true rfl) ?_ | refine gi_ldc ?_ | refine gi_add ?_ | refine gi_inc rfl ?_ | refine gi_sub (by omega) ?_ | refine gi_mul ?_ | refine go_nx rfl ?_)
      first | refine gb_lt (by omega) (by omega) (fun c2 => ?_) (fun c2 => ?_) | refine gb_ge (by omega) (by omega) (fun c2 => ?_) (fun c2 => ?_) | refine gb_gt (by omega) (by omega) (fun c2 => ?_) (fun c2 => ?_) | refine gb_le (by omega) (by omega) (fun c2 => ?_) (fun c2 => ?_) | refine gb_eq (by omega) (by omega) (fun c2 => ?_) (fun c2 => ?_) | refine gb_ne (by omega) (by omega) (fun c2 => ?_) (fun c2 => ?_)
      · rw [if_neg (by omega)] at hq
        refine go_rt rfl ?_
        exact hq c (fun _ => rfl)
      rw [if_pos (by omega)] at hq
      have hil2 : i < q_last B (q_val B e) := by omega
      have hel := q_at_el hat hil2
      have hoki := q_at_ok (n := n) hat hil2 (by omega)
      obtain ⟨j1, j2, j3⟩ := q_ok_in hw.2.2 hoki
      have hBi := hw.2.2.2.1 i
      have hnx : q_next B i ≤ q_last B (q_val B e) := q_at_le hel.2.2.2.2
      have six : ∀ (r : Nat × Nat) (c1 : Nat), q_le1 r → (r.1 = 0 → c1 = r.2) → (if B i = 3 then X i c else (2, c)) = r → mm_Go E d 129 (mm_blk 129 6) [.ref o, .int (nI (b + e)), .int (nI (b + q_val B e)), .int (nI (b + i))] [] (mH h o ad (mI I c1 r.1) C) Q := by
        intro r c1 hr1 hr2 hr3
        rw [hr3] at hq
        unfold q_then at hq
        repeat (first | refine gi_con ?_ | refine gi_bip (Nat.le_of_ble_eq_true rfl) ?_ | refine gi_sip (Nat.le_of_ble_eq_true rfl) ?_ | refine gi_ldc ?_ | refine gi_add ?_ | refine gi_inc rfl ?_ | refine gi_sub (by omega) ?_ | refine gi_mul ?_ | refine go_nx rfl ?_)
        refine go_step ?_
        refine g_callV (by decide) (by decide) (Nat.le_of_ble_eq_true rfl) (Nat.le_of_ble_eq_true rfl) mH_rcv (by omega) (Nat.le_of_ble_eq_true rfl) rfl ?_
        refine sp_mnext (by omega) (hm _) hw hoki ?_
        repeat (first | refine gi_con ?_ | refine gi_bip (Nat.le_of_ble_eq_true rfl) ?_ | refine gi_sip (Nat.le_of_ble_eq_true rfl) ?_ | refine gi_ldc ?_ | refine gi_add ?_ | refine gi_inc rfl ?_ | refine gi_sub (by omega) ?_ | refine gi_mul ?_ | refine go_nx rfl ?_)
        refine go_jp rfl ?_
        by_cases h0 : r.1 = 0
        · rw [if_pos h0] at hq
          rw [h0, hr2 h0]
          exact ih (q_next B i) (idx + 1) r.2 (by omega) hel.2.2.2.2 (hr1.2 h0) hq
        · rw [if_neg h0] at hq
          exact gone r.1 c1 _ (by omega) (by have := hr1.1; omega) (hq c1 hr2)
      repeat (first | refine gi_con ?_ | refine gi_bip (Nat.le_of_ble_eq_true rfl) ?_ | refine gi_sip (Nat.le_of_ble_eq_true rfl) ?_ | refine gi_ldc ?_ | refine gi_add ?_ | refine gi_inc rfl ?_ | refine gi_sub (by omega) ?_ | refine gi_mul ?_ | refine go_nx rfl ?_)
      refine go_step ?_
      refine g_callV (by decide) (by decide) (Nat.le_of_ble_eq_true rfl) (Nat.le_of_ble_eq_true rfl) mH_rcv (by omega) (Nat.le_of_ble_eq_true rfl) rfl ?_
      refine sp_mat2 (hm _) hw hoki.1 ?_
      repeat (first | refine gi_con ?_ | refine gi_bip (Nat.le_of_ble_eq_true rfl) ?_ | refine gi_sip (Nat.le_of_ble_eq_true rfl) ?_ | refine gi_ldc ?_ | refine gi_add ?_ | refine gi_inc rfl ?_ | refine gi_sub (by omega) ?_ | refine gi_mul ?_ | refine go_nx rfl ?_)
      first | refine gb_lt (by omega) (by omega) (fun c3 => ?_) (fun c3 => ?_) | refine gb_ge (by omega) (by omega) (fun c3 => ?_) (fun c3 => ?_) | refine gb_gt (by omega) (by omega) (fun c3 => ?_) (fun c3 => ?_) | refine gb_le (by omega) (by omega) (fun c3 => ?_) (fun c3 => ?_) | refine gb_eq (by omega) (by omega) (fun c3 => ?_) (fun c3 => ?_) | refine gb_ne (by omega) (by omega) (fun c3 => ?_) (fun c3 => ?_)
      · repeat (first | refine gi_con ?_ | refine gi_bip (Nat.le_of_ble_eq_true rfl) ?_ | refine gi_sip (Nat.le_of_ble_eq_true rfl) ?_ | refine gi_ldc ?_ | refine gi_add ?_ | refine gi_inc rfl ?_ | refine gi_sub (by omega) ?_ | refine gi_mul ?_ | refine go_nx rfl ?_)
        refine go_step ?_
        refine g_callV (by decide) (by decide) (Nat.le_of_ble_eq_true rfl) (Nat.le_of_ble_eq_true rfl) mH_rcv (by omega) (Nat.le_of_ble_eq_true rfl) rfl ?_
        refine sp_mval (by omega) (hm _) hw hoki.2.1 ?_
        repeat (first | refine gi_con ?_ | refine gi_bip (Nat.le_of_ble_eq_true rfl) ?_ | refine gi_sip (Nat.le_of_ble_eq_true rfl) ?_ | refine gi_ldc ?_ | refine gi_add ?_ | refine gi_inc rfl ?_ | refine gi_sub (by omega) ?_ | refine gi_mul ?_ | refine go_nx rfl ?_)
        refine go_step ?_
        refine g_callV (by decide) (by decide) (Nat.le_of_ble_eq_true rfl) (Nat.le_of_ble_eq_true rfl) mH_rcv (by omega) (Nat.le_of_ble_eq_true rfl) rfl ?_
        have hbi := (q_at_box hel.2.1).1 c3
        have hpos := q_box_pos hbi
        refine hX i c _ c3 hoki ⟨lev' - 1, by omega, ?_⟩ (by omega) hc (fun c1 hc1 => ?_)
        · rw [show lev' - 1 + 1 = lev' by omega]
          exact hbi
        repeat (first | refine gi_con ?_ | refine gi_bip (Nat.le_of_ble_eq_true rfl) ?_ | refine gi_sip (Nat.le_of_ble_eq_true rfl) ?_ | refine gi_ldc ?_ | refine gi_add ?_ | refine gi_inc rfl ?_ | refine gi_sub (by omega) ?_ | refine gi_mul ?_ | refine go_nx rfl ?_)
        refine go_jp rfl ?_
        exact six (X i c) c1 (hle i c hc) hc1 (if_pos c3)
      · repeat (first | refine gi_con ?_ | refine gi_bip (Nat.le_of_ble_eq_true rfl) ?_ | refine gi_sip (Nat.le_of_ble_eq_true rfl) ?_ | refine gi_ldc ?_ | refine gi_add ?_ | refine gi_inc rfl ?_ | refine gi_sub (by omega) ?_ | refine gi_mul ?_ | refine go_nx rfl ?_)
        refine go_step ?_
        refine g_callV (by decide) (by decide) (Nat.le_of_ble_eq_true rfl) (Nat.le_of_ble_eq_true rfl) mH_rcv (by omega) (Nat.le_of_ble_eq_true rfl) rfl ?_
        refine sp_mfails (by omega) ?_
        repeat (first | refine gi_con ?_ | refine gi_bip (Nat.le_of_ble_eq_true rfl) ?_ | refine gi_sip (Nat.le_of_ble_eq_true rfl) ?_ | refine gi_ldc ?_ | refine gi_add ?_ | refine gi_inc rfl ?_ | refine gi_sub (by omega) ?_ | refine gi_mul ?_ | refine go_nx rfl ?_)
        refine go_jp rfl ?_
        exact six (2, c) c (q_le_f (by omega)) (fun q => by cases q) (if_neg c3)
  have three : ∀ (f : Nat), f < 100 → (f = 0 → q_join B e = true ∧ ¬ (B e ≠ 4 ∨ q_sz B (q_val B e) = 5)) → (0 < f → ∀ c1, Q none (mH h o ad (mI I c1 f) C)) → mm_Go E d 129 (mm_blk 129 3) [.ref o, .int (nI (b + e)), .int (nI (b + q_val B e)), mm_un] [] (mH h o ad (mI I c f) C) Q := by
    intro f hf h0 h1
    repeat (first | refine gi_con ?_ | refine gi_bip (Nat.le_of_ble_eq_true rfl) ?_ | refine gi_sip (Nat.le_of_ble_eq_true rfl) ?_ | refine gi_ldc ?_ | refine gi_add ?_ | refine gi_inc rfl ?_ | refine gi_sub (by omega) ?_ | refine gi_mul ?_ | refine go_nx rfl ?_)
    refine go_step ?_
    refine g_callV (by decide) (by decide) (Nat.le_of_ble_eq_true rfl) (Nat.le_of_ble_eq_true rfl) mH_rcv (by omega) (Nat.le_of_ble_eq_true rfl) rfl ?_
    refine sp_mcounts (by omega) (by omega) (by omega) hf ?_
    repeat (first | refine gi_con ?_ | refine gi_bip (Nat.le_of_ble_eq_true rfl) ?_ | refine gi_sip (Nat.le_of_ble_eq_true rfl) ?_ | refine gi_ldc ?_ | refine gi_add ?_ | refine gi_inc rfl ?_ | refine gi_sub (by omega) ?_ | refine gi_mul ?_ | refine go_nx rfl ?_)
    refine go_jp rfl ?_
    by_cases hf0 : f = 0
    · subst hf0
      obtain ⟨h2, h3⟩ := h0 rfl
      rw [h2, if_neg (by decide), if_neg h3] at hq
      unfold q_then q_cnt at hq
      by_cases h4 : 100 < c + 1
      · rw [if_pos h4, if_neg (show ¬ (5 : Nat) = 0 by decide)] at hq
        rw [if_pos h4]
        exact gone 5 _ _ (by omega) (by omega) (mEnd_f hq (by decide))
      · rw [if_neg h4, if_pos rfl] at hq
        rw [if_neg h4, Nat.add_assoc]
        have h5 : B e = 4 := Classical.not_not.mp (fun q => h3 (Or.inl q))
        have hb := hbx h5
        have hlev : lev = lev - 1 + 1 := by have := q_box_pos hb; omega
        rw [hlev] at hb
        obtain ⟨g1, g2, g3, g4⟩ := q_box_at hb
        have hll : q_last B (q_val B e) < n := by unfold q_last; omega
        exact loop (lev - 1) hlev g2 hll 2001 _ 0 (c + 1) (by omega) g4 (by omega) hq
    · have hf1 : (if 100 < c + 1 then (if f = 0 then 5 else f) else f) = f := by
        rw [if_neg hf0]
        split <;> rfl
      rw [hf1]
      exact gone f _ _ (by omega) hf (h1 (by omega) _)
  have two : (q_join B e = true ∧ (B e ≠ 4 ∨ q_sz B (q_val B e) = 5)) → mm_Go E d 129 (mm_blk 129 2) [.ref o, .int (nI (b + e)), .int (nI (b + q_val B e)), mm_un] [] (mH h o ad (mI I c 0) C) Q := by
    intro h1
    rw [h1.1, if_neg (by decide), if_pos h1.2] at hq
    repeat (first | refine gi_con ?_ | refine gi_bip (Nat.le_of_ble_eq_true rfl) ?_ | refine gi_sip (Nat.le_of_ble_eq_true rfl) ?_ | refine gi_ldc ?_ | refine gi_add ?_ | refine gi_inc rfl ?_ | refine gi_sub (by omega) ?_ | refine gi_mul ?_ | refine go_nx rfl ?_)
    refine go_step ?_
    refine g_callV (by decide) (by decide) (Nat.le_of_ble_eq_true rfl) (Nat.le_of_ble_eq_true rfl) mH_rcv (by omega) (Nat.le_of_ble_eq_true rfl) rfl ?_
    refine sp_mfails (by omega) ?_
    repeat (first | refine gi_con ?_ | refine gi_bip (Nat.le_of_ble_eq_true rfl) ?_ | refine gi_sip (Nat.le_of_ble_eq_true rfl) ?_ | refine gi_ldc ?_ | refine gi_add ?_ | refine gi_inc rfl ?_ | refine gi_sub (by omega) ?_ | refine gi_mul ?_ | refine go_nx rfl ?_)
    refine go_jp rfl ?_
    exact three 2 (by omega) (fun q => by cases q) (fun _ c1 => mEnd_f hq (by decide))
  repeat (first | refine gi_con ?_ | refine gi_bip (Nat.le_of_ble_eq_true rfl) ?_ | refine gi_sip (Nat.le_of_ble_eq_true rfl) ?_ | refine gi_ldc ?_ | refine gi_add ?_ | refine gi_inc rfl ?_ | refine gi_sub (by omega) ?_ | refine gi_mul ?_ | refine go_nx rfl ?_)
  refine go_step ?_
  refine g_callV (by decide) (by decide) (Nat.le_of_ble_eq_true rfl) (Nat.le_of_ble_eq_true rfl) mH_rcv (by omega) (Nat.le_of_ble_eq_true rfl) rfl ?_
  refine sp_mval (by omega) (hm _) hw hok.2.1 ?_
  repeat (first | refine gi_con ?_ | refine gi_bip (Nat.le_of_ble_eq_true rfl) ?_ | refine gi_sip (Nat.le_of_ble_eq_true rfl) ?_ | refine gi_ldc ?_ | refine gi_add ?_ | refine gi_inc rfl ?_ | refine gi_sub (by omega) ?_ | refine gi_mul ?_ | refine go_nx rfl ?_)
  refine go_step ?_
  refine g_callV (by decide) (by decide) (Nat.le_of_ble_eq_true rfl) (Nat.le_of_ble_eq_true rfl) mH_rcv (by omega) (Nat.le_of_ble_eq_true rfl) rfl ?_
  refine sp_misjoin (by omega) (hm _) hw hok.2.1 (by have := hok.1; omega) ?_
  repeat (first | refine gi_con ?_ | refine gi_bip (Nat.le_of_ble_eq_true rfl) ?_ | refine gi_sip (Nat.le_of_ble_eq_true rfl) ?_ | refine gi_ldc ?_ | refine gi_add ?_ | refine gi_inc rfl ?_ | refine gi_sub (by omega) ?_ | refine gi_mul ?_ | refine go_nx rfl ?_)
  first | refine gt_eq (fun c1 => ?_) (fun c1 => ?_) | refine gt_ne (fun c1 => ?_) (fun c1 => ?_)
  · repeat (first | refine gi_con ?_ | refine gi_bip (Nat.le_of_ble_eq_true rfl) ?_ | refine gi_sip (Nat.le_of_ble_eq_true rfl) ?_ | refine gi_ldc ?_ | refine gi_add ?_ | refine gi_inc rfl ?_ | refine gi_sub (by omega) ?_ | refine gi_mul ?_ | refine go_nx rfl ?_)
    refine go_step ?_
    refine g_callV (by decide) (by decide) (Nat.le_of_ble_eq_true rfl) (Nat.le_of_ble_eq_true rfl) mH_rcv (by omega) (Nat.le_of_ble_eq_true rfl) rfl ?_
    refine sp_mat2 (hm _) hw hok.1 ?_
    repeat (first | refine gi_con ?_ | refine gi_bip (Nat.le_of_ble_eq_true rfl) ?_ | refine gi_sip (Nat.le_of_ble_eq_true rfl) ?_ | refine gi_ldc ?_ | refine gi_add ?_ | refine gi_inc rfl ?_ | refine gi_sub (by omega) ?_ | refine gi_mul ?_ | refine go_nx rfl ?_)
    first | refine gb_lt (by omega) (by omega) (fun c2 => ?_) (fun c2 => ?_) | refine gb_ge (by omega) (by omega) (fun c2 => ?_) (fun c2 => ?_) | refine gb_gt (by omega) (by omega) (fun c2 => ?_) (fun c2 => ?_) | refine gb_le (by omega) (by omega) (fun c2 => ?_) (fun c2 => ?_) | refine gb_eq (by omega) (by omega) (fun c2 => ?_) (fun c2 => ?_) | refine gb_ne (by omega) (by omega) (fun c2 => ?_) (fun c2 => ?_)
    · exact two ⟨c1, Or.inl c2⟩
    have hb := hbx c2
    have hs := q_sz_lt hw.2.2.2.1 (q_val B e)
    have hle := q_box_le hb
    repeat (first | refine gi_con ?_ | refine gi_bip (Nat.le_of_ble_eq_true rfl) ?_ | refine gi_sip (Nat.le_of_ble_eq_true rfl) ?_ | refine gi_ldc ?_ | refine gi_add ?_ | refine gi_inc rfl ?_ | refine gi_sub (by omega) ?_ | refine gi_mul ?_ | refine go_nx rfl ?_)
    refine go_step ?_
    refine g_callV (by decide) (by decide) (Nat.le_of_ble_eq_true rfl) (Nat.le_of_ble_eq_true rfl) mH_rcv (by omega) (Nat.le_of_ble_eq_true rfl) rfl ?_
    refine sp_mwh (by omega) (hm _) hw (i3 (Or.inr (Or.inr c2))) ?_
    repeat (first | refine gi_con ?_ | refine gi_bip (Nat.le_of_ble_eq_true rfl) ?_ | refine gi_sip (Nat.le_of_ble_eq_true rfl) ?_ | refine gi_ldc ?_ | refine gi_add ?_ | refine gi_inc rfl ?_ | refine gi_sub (by omega) ?_ | refine gi_mul ?_ | refine go_nx rfl ?_)
    first | refine gb_lt (by omega) (by omega) (fun c3 => ?_) (fun c3 => ?_) | refine gb_ge (by omega) (by omega) (fun c3 => ?_) (fun c3 => ?_) | refine gb_gt (by omega) (by omega) (fun c3 => ?_) (fun c3 => ?_) | refine gb_le (by omega) (by omega) (fun c3 => ?_) (fun c3 => ?_) | refine gb_eq (by omega) (by omega) (fun c3 => ?_) (fun c3 => ?_) | refine gb_ne (by omega) (by omega) (fun c3 => ?_) (fun c3 => ?_)
    · exact three 0 (by omega) (fun _ => ⟨c1, fun q => q.elim (fun q => q c2) c3⟩) (fun q => by omega)
    · refine go_jp rfl ?_
      exact two ⟨c1, Or.inr c3⟩
  · rw [c1, if_pos rfl] at hq
    repeat (first | refine gi_con ?_ | refine gi_bip (Nat.le_of_ble_eq_true rfl) ?_ | refine gi_sip (Nat.le_of_ble_eq_true rfl) ?_ | refine gi_ldc ?_ | refine gi_add ?_ | refine gi_inc rfl ?_ | refine gi_sub (by omega) ?_ | refine gi_mul ?_ | refine go_nx rfl ?_)
    refine go_step ?_
    refine g_callV (by decide) (by decide) (Nat.le_of_ble_eq_true rfl) (Nat.le_of_ble_eq_true rfl) mH_rcv (by omega) (Nat.le_of_ble_eq_true rfl) rfl ?_
    refine sp_mfails (by omega) ?_
    repeat (first | refine gi_con ?_ | refine gi_bip (Nat.le_of_ble_eq_true rfl) ?_ | refine gi_sip (Nat.le_of_ble_eq_true rfl) ?_ | refine gi_ldc ?_ | refine gi_add ?_ | refine gi_inc rfl ?_ | refine gi_sub (by omega) ?_ | refine gi_mul ?_ | refine go_nx rfl ?_)
    refine go_jp rfl ?_
    exact three 1 (by omega) (fun q => by cases q) (fun _ c1 => mEnd_f hq (by decide))
end M
