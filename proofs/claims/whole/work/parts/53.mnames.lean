/-! THE REFERENCE: names -/
def q_mg (B : Nat → Nat) (k i : Nat) (g : Bool) : Bool := g && !decide (B i = 0) && !(decide (B i = 46) && (decide (i = 0) || decide (k = 0) || decide (B (i - 1) = 46)))
/-- the steps of a path, as the reference reads them -/
def q_ms (B : Nat → Nat) : Nat → Nat → Bool → Nat → Bool
  | 0, _, g, s => g && decide (s < 9)
  | k + 1, i, g, s => q_ms B k (i + 1) (q_mg B k i g) (s + if B i = 46 then 1 else 0)
theorem q_ms_false (B : Nat → Nat) : ∀ k i s, q_ms B k i false s = false := by
  intro k
  induction k with
  | zero => intro i s; rfl
  | succ k ih =>
    intro i s
    unfold q_ms
    rw [show q_mg B k i false = false from rfl]
    exact ih _ _
theorem q_ms_steps (B : Nat → Nat) : ∀ k i g s opens st, 1 ≤ k → (opens = true ↔ i = 0 ∨ B (i - 1) = 46) → (if opens = true then st + 1 = s else st = s) → q_ms B k i g s = (g && q_steps B true k i opens st) := by
  intro k
  induction k with
  | zero => intro i g s opens st hk; omega
  | succ k ih =>
    intro i g s opens st hk ho hs
    cases g with
    | false => rw [q_ms_false]; rfl
    | true =>
      rw [Bool.true_and]
      unfold q_ms q_steps
      by_cases h0 : B i = 0
      · rw [if_pos (Or.inl h0), show q_mg B k i true = false from by unfold q_mg; rw [decide_eq_true h0]; rfl, q_ms_false]
      · by_cases hp : B i = 46
        · by_cases hop : opens = true
          · rw [if_pos (Or.inr ⟨hop, Or.inl hp⟩), show q_mg B k i true = false from by
              unfold q_mg
              rw [decide_eq_false h0, decide_eq_true hp]
              rcases ho.mp hop with q | q
              · rw [decide_eq_true q]; rfl
              · rw [decide_eq_true q]; simp, q_ms_false]
          · have hop' : opens = false := by simpa using hop
            rw [if_pos hp, if_neg (show ¬ (B i = 0 ∨ opens = true ∧ (B i = 46 ∨ B i = 36 ∧ true = false)) from fun q => q.elim h0 (fun q => hop q.1)), decide_eq_true hp, hop']
            rw [if_neg (by rw [hop']; decide)] at hs
            have hi : ¬ i = 0 := fun q => hop (ho.mpr (Or.inl q))
            have hb : ¬ B (i - 1) = 46 := fun q => hop (ho.mpr (Or.inr q))
            by_cases hk0 : k = 0
            · subst hk0
              rw [show q_mg B 0 i true = false from by unfold q_mg; rw [decide_eq_false h0, decide_eq_true hp]; simp, q_ms_false]
              rfl
            · rw [show q_mg B k i true = true from by unfold q_mg; rw [decide_eq_false h0, decide_eq_true hp, decide_eq_false hi, decide_eq_false hk0, decide_eq_false hb]; rfl]
              rw [ih (i + 1) true _ true st (by omega) ⟨fun _ => Or.inr (by rw [Nat.add_sub_cancel]; exact hp), fun _ => rfl⟩ (by rw [if_pos rfl, hs])]
              rfl
        · have hg : q_mg B k i true = true := by unfold q_mg; rw [decide_eq_false h0, decide_eq_false hp]; rfl
          rw [hg, if_neg hp, if_neg (show ¬ (B i = 0 ∨ opens = true ∧ (B i = 46 ∨ B i = 36 ∧ true = false)) from fun q => q.elim h0 (fun q => q.2.elim hp (fun q => Bool.noConfusion q.2))), decide_eq_false hp]
          have hs' : (if opens = true then st + 1 else st) = s := by
            by_cases hop : opens = true
            · rw [if_pos hop] at hs ⊢; exact hs
            · rw [if_neg hop] at hs ⊢; exact hs
          rw [hs']
          by_cases hk0 : k = 0
          · subst hk0
            show (true && decide (s + 0 < 9)) = (!false && decide (s ≤ 8))
            rw [Bool.true_and, Bool.not_false, Bool.true_and]
            exact decide_eq_decide.mpr (by omega)
          · rw [ih (i + 1) true _ false s (by omega) ⟨fun q => Bool.noConfusion q, fun q => (q.elim (fun q => absurd q (Nat.succ_ne_zero i)) (fun q => absurd q hp))⟩ (by rw [if_neg (by decide)]; rfl)]
            rfl
theorem sp_mpath {E : mmE} {d : Nat} {h : mmH} {Q : Option Value → mmH → Prop} {o st b n : Nat} {R B : Nat → Nat} (hd : 3 ≤ d) (hm : mSt h o st R) (hw : ∀ j, j < n → R (b + j) = B j) (he : b + n ≤ 22100) (hB : ∀ j, B j < 256) (hq : Q (some (.int (q_t (q_path B n)))) h) : mm_Go E d 111 (mm_blk 111 0) [.ref o, .int (nI b), .int (nI n), mm_un, mm_un, mm_un, mm_un] [] h Q := by
  have loop : ∀ (k i : Nat) (g : Bool) (s : Nat) (x6 : Value), k + i = n → s ≤ i + 1 → Q (some (.int (q_t (q_ms B k i g s)))) h → mm_Go E d 111 (mm_blk 111 3) [.ref o, .int (nI b), .int (nI n), .int (q_t g), .int (nI s), .int (nI (b + i)), x6] [] h Q := by
    intro k
    induction k with
    | zero =>
      intro i g s x6 hk hs hq
      unfold q_ms at hq
      repeat (first | refine gi_con ?_ | refine gi_bip (Nat.le_of_ble_eq_true rfl) ?_ | refine gi_sip (Nat.le_of_ble_eq_true rfl) ?_ | refine gi_ldc ?_ | refine gi_add ?_ | refine gi_inc rfl ?_ | refine gi_sub (by omega) ?_ | refine gi_mul ?_ | refine go_nx rfl ?_)
      first | refine gb_lt (by omega) (by omega) (fun c => ?_) (fun c => ?_) | refine gb_ge (by omega) (by omega) (fun c => ?_) (fun c => ?_) | refine gb_gt (by omega) (by omega) (fun c => ?_) (fun c => ?_) | refine gb_le (by omega) (by omega) (fun c => ?_) (fun c => ?_) | refine gb_eq (by omega) (by omega) (fun c => ?_) (fun c => ?_) | refine gb_ne (by omega) (by omega) (fun c => ?_) (fun c => ?_)
      · repeat (first | refine gi_con ?_ | refine gi_bip (Nat.le_of_ble_eq_true rfl) ?_ | refine gi_sip (Nat.le_of_ble_eq_true rfl) ?_ | refine gi_ldc ?_ | refine gi_add ?_ | refine gi_inc rfl ?_ | refine gi_sub (by omega) ?_ | refine gi_mul ?_ | refine go_nx rfl ?_)
        first | refine gt_eq (fun c2 => ?_) (fun c2 => ?_) | refine gt_ne (fun c2 => ?_) (fun c2 => ?_)
        · rw [c2] at hq
          repeat (first | refine gi_con ?_ | refine gi_bip (Nat.le_of_ble_eq_true rfl) ?_ | refine gi_sip (Nat.le_of_ble_eq_true rfl) ?_ | refine gi_ldc ?_ | refine gi_add ?_ | refine gi_inc rfl ?_ | refine gi_sub (by omega) ?_ | refine gi_mul ?_ | refine go_nx rfl ?_)
          refine go_jp rfl ?_
          refine go_rt rfl ?_
          exact hq
        · rw [c2, Bool.true_and] at hq
          repeat (first | refine gi_con ?_ | refine gi_bip (Nat.le_of_ble_eq_true rfl) ?_ | refine gi_sip (Nat.le_of_ble_eq_true rfl) ?_ | refine gi_ldc ?_ | refine gi_add ?_ | refine gi_inc rfl ?_ | refine gi_sub (by omega) ?_ | refine gi_mul ?_ | refine go_nx rfl ?_)
          first | refine gb_lt (by omega) (by omega) (fun c3 => ?_) (fun c3 => ?_) | refine gb_ge (by omega) (by omega) (fun c3 => ?_) (fun c3 => ?_) | refine gb_gt (by omega) (by omega) (fun c3 => ?_) (fun c3 => ?_) | refine gb_le (by omega) (by omega) (fun c3 => ?_) (fun c3 => ?_) | refine gb_eq (by omega) (by omega) (fun c3 => ?_) (fun c3 => ?_) | refine gb_ne (by omega) (by omega) (fun c3 => ?_) (fun c3 => ?_)
          · rw [decide_eq_false (by omega)] at hq
            repeat (first | refine gi_con ?_ | refine gi_bip (Nat.le_of_ble_eq_true rfl) ?_ | refine gi_sip (Nat.le_of_ble_eq_true rfl) ?_ | refine gi_ldc ?_ | refine gi_add ?_ | refine gi_inc rfl ?_ | refine gi_sub (by omega) ?_ | refine gi_mul ?_ | refine go_nx rfl ?_)
            refine go_jp rfl ?_
            refine go_rt rfl ?_
            exact hq
          · rw [decide_eq_true (by omega)] at hq
            repeat (first | refine gi_con ?_ | refine gi_bip (Nat.le_of_ble_eq_true rfl) ?_ | refine gi_sip (Nat.le_of_ble_eq_true rfl) ?_ | refine gi_ldc ?_ | refine gi_add ?_ | refine gi_inc rfl ?_ | refine gi_sub (by omega) ?_ | refine gi_mul ?_ | refine go_nx rfl ?_)
            refine go_jp rfl ?_
            refine go_rt rfl ?_
            exact hq
      · omega
    | succ k ih =>
      intro i g s x6 hk hs hq
      have hBi := hB i
      unfold q_ms at hq
      have eight : ∀ (g1 : Bool), q_mg B k i g = g1 → mm_Go E d 111 (mm_blk 111 8) [.ref o, .int (nI b), .int (nI n), .int (q_t g), .int (nI s), .int (nI (b + i)), .int (q_t (decide (B i = 46)))] [.int (q_t g1)] h Q := by
        intro g1 hg1
        rw [hg1] at hq
        repeat (first | refine gi_con ?_ | refine gi_bip (Nat.le_of_ble_eq_true rfl) ?_ | refine gi_sip (Nat.le_of_ble_eq_true rfl) ?_ | refine gi_ldc ?_ | refine gi_add ?_ | refine gi_inc rfl ?_ | refine gi_sub (by omega) ?_ | refine gi_mul ?_ | refine go_nx rfl ?_)
        first | refine gt_eq (fun c => ?_) (fun c => ?_) | refine gt_ne (fun c => ?_) (fun c => ?_)
        · rw [if_neg (of_decide_eq_false c)] at hq
          repeat (first | refine gi_con ?_ | refine gi_bip (Nat.le_of_ble_eq_true rfl) ?_ | refine gi_sip (Nat.le_of_ble_eq_true rfl) ?_ | refine gi_ldc ?_ | refine gi_add ?_ | refine gi_inc rfl ?_ | refine gi_sub (by omega) ?_ | refine gi_mul ?_ | refine go_nx rfl ?_)
          refine go_jp rfl ?_
          repeat (first | refine gi_con ?_ | refine gi_bip (Nat.le_of_ble_eq_true rfl) ?_ | refine gi_sip (Nat.le_of_ble_eq_true rfl) ?_ | refine gi_ldc ?_ | refine gi_add ?_ | refine gi_inc rfl ?_ | refine gi_sub (by omega) ?_ | refine gi_mul ?_ | refine go_nx rfl ?_)
          refine go_jp rfl ?_
          rw [Nat.add_assoc]
          exact ih (i + 1) g1 (s + 0) _ (by omega) (by omega) hq
        · rw [if_pos (of_decide_eq_true c)] at hq
          repeat (first | refine gi_con ?_ | refine gi_bip (Nat.le_of_ble_eq_true rfl) ?_ | refine gi_sip (Nat.le_of_ble_eq_true rfl) ?_ | refine gi_ldc ?_ | refine gi_add ?_ | refine gi_inc rfl ?_ | refine gi_sub (by omega) ?_ | refine gi_mul ?_ | refine go_nx rfl ?_)
          refine go_jp rfl ?_
          repeat (first | refine gi_con ?_ | refine gi_bip (Nat.le_of_ble_eq_true rfl) ?_ | refine gi_sip (Nat.le_of_ble_eq_true rfl) ?_ | refine gi_ldc ?_ | refine gi_add ?_ | refine gi_inc rfl ?_ | refine gi_sub (by omega) ?_ | refine gi_mul ?_ | refine go_nx rfl ?_)
          refine go_jp rfl ?_
          rw [Nat.add_assoc]
          exact ih (i + 1) g1 (s + 1) _ (by omega) (by omega) hq
      have six : q_mg B k i g = true → mm_Go E d 111 (mm_blk 111 6) [.ref o, .int (nI b), .int (nI n), .int (q_t g), .int (nI s), .int (nI (b + i)), .int (q_t (decide (B i = 46)))] [] h Q := by
        intro hg
        repeat (first | refine gi_con ?_ | refine gi_bip (Nat.le_of_ble_eq_true rfl) ?_ | refine gi_sip (Nat.le_of_ble_eq_true rfl) ?_ | refine gi_ldc ?_ | refine gi_add ?_ | refine gi_inc rfl ?_ | refine gi_sub (by omega) ?_ | refine gi_mul ?_ | refine go_nx rfl ?_)
        refine go_jp rfl ?_
        exact eight true hg
      have seven : q_mg B k i g = false → mm_Go E d 111 (mm_blk 111 7) [.ref o, .int (nI b), .int (nI n), .int (q_t g), .int (nI s), .int (nI (b + i)), .int (q_t (decide (B i = 46)))] [] h Q := by
        intro hg
        repeat (first | refine gi_con ?_ | refine gi_bip (Nat.le_of_ble_eq_true rfl) ?_ | refine gi_sip (Nat.le_of_ble_eq_true rfl) ?_ | refine gi_ldc ?_ | refine gi_add ?_ | refine gi_inc rfl ?_ | refine gi_sub (by omega) ?_ | refine gi_mul ?_ | refine go_nx rfl ?_)
        refine go_jp rfl ?_
        exact eight false hg
      have five : mm_Go E d 111 (mm_blk 111 5) [.ref o, .int (nI b), .int (nI n), .int (q_t g), .int (nI s), .int (nI (b + i)), x6] [.int (q_t (decide (B i = 46)))] h Q := by
        repeat (first | refine gi_con ?_ | refine gi_bip (Nat.le_of_ble_eq_true rfl) ?_ | refine gi_sip (Nat.le_of_ble_eq_true rfl) ?_ | refine gi_ldc ?_ | refine gi_add ?_ | refine gi_inc rfl ?_ | refine gi_sub (by omega) ?_ | refine gi_mul ?_ | refine go_nx rfl ?_)
        first | refine gt_eq (fun c => ?_) (fun c => ?_) | refine gt_ne (fun c => ?_) (fun c => ?_)
        · exact seven (by unfold q_mg; rw [c]; rfl)
        repeat (first | refine gi_con ?_ | refine gi_bip (Nat.le_of_ble_eq_true rfl) ?_ | refine gi_sip (Nat.le_of_ble_eq_true rfl) ?_ | refine gi_ldc ?_ | refine gi_add ?_ | refine gi_inc rfl ?_ | refine gi_sub (by omega) ?_ | refine gi_mul ?_ | refine go_nx rfl ?_)
        refine gm_gs hm rfl ?_
        repeat (first | refine gi_con ?_ | refine gi_bip (Nat.le_of_ble_eq_true rfl) ?_ | refine gi_sip (Nat.le_of_ble_eq_true rfl) ?_ | refine gi_ldc ?_ | refine gi_add ?_ | refine gi_inc rfl ?_ | refine gi_sub (by omega) ?_ | refine gi_mul ?_ | refine go_nx rfl ?_)
        refine gm_ld hm (by omega) ?_
        rw [hw i (by omega)]
        refine gs_eq hBi (fun c2 => ?_) (fun c2 => ?_)
        · exact seven (by unfold q_mg; rw [decide_eq_true c2]; simp)
        repeat (first | refine gi_con ?_ | refine gi_bip (Nat.le_of_ble_eq_true rfl) ?_ | refine gi_sip (Nat.le_of_ble_eq_true rfl) ?_ | refine gi_ldc ?_ | refine gi_add ?_ | refine gi_inc rfl ?_ | refine gi_sub (by omega) ?_ | refine gi_mul ?_ | refine go_nx rfl ?_)
        first | refine gt_eq (fun c3 => ?_) (fun c3 => ?_) | refine gt_ne (fun c3 => ?_) (fun c3 => ?_)
        · exact six (by unfold q_mg; rw [c, c3, decide_eq_false c2]; rfl)
        repeat (first | refine gi_con ?_ | refine gi_bip (Nat.le_of_ble_eq_true rfl) ?_ | refine gi_sip (Nat.le_of_ble_eq_true rfl) ?_ | refine gi_ldc ?_ | refine gi_add ?_ | refine gi_inc rfl ?_ | refine gi_sub (by omega) ?_ | refine gi_mul ?_ | refine go_nx rfl ?_)
        first | refine gb_lt (by omega) (by omega) (fun c4 => ?_) (fun c4 => ?_) | refine gb_ge (by omega) (by omega) (fun c4 => ?_) (fun c4 => ?_) | refine gb_gt (by omega) (by omega) (fun c4 => ?_) (fun c4 => ?_) | refine gb_le (by omega) (by omega) (fun c4 => ?_) (fun c4 => ?_) | refine gb_eq (by omega) (by omega) (fun c4 => ?_) (fun c4 => ?_) | refine gb_ne (by omega) (by omega) (fun c4 => ?_) (fun c4 => ?_)
        · exact seven (by unfold q_mg; rw [c3, decide_eq_true (show i = 0 by omega)]; simp)
        repeat (first | refine gi_con ?_ | refine gi_bip (Nat.le_of_ble_eq_true rfl) ?_ | refine gi_sip (Nat.le_of_ble_eq_true rfl) ?_ | refine gi_ldc ?_ | refine gi_add ?_ | refine gi_inc rfl ?_ | refine gi_sub (by omega) ?_ | refine gi_mul ?_ | refine go_nx rfl ?_)
        first | refine gb_lt (by omega) (by omega) (fun c5 => ?_) (fun c5 => ?_) | refine gb_ge (by omega) (by omega) (fun c5 => ?_) (fun c5 => ?_) | refine gb_gt (by omega) (by omega) (fun c5 => ?_) (fun c5 => ?_) | refine gb_le (by omega) (by omega) (fun c5 => ?_) (fun c5 => ?_) | refine gb_eq (by omega) (by omega) (fun c5 => ?_) (fun c5 => ?_) | refine gb_ne (by omega) (by omega) (fun c5 => ?_) (fun c5 => ?_)
        · exact seven (by unfold q_mg; rw [c3, decide_eq_true (show k = 0 by omega)]; simp)
        repeat (first | refine gi_con ?_ | refine gi_bip (Nat.le_of_ble_eq_true rfl) ?_ | refine gi_sip (Nat.le_of_ble_eq_true rfl) ?_ | refine gi_ldc ?_ | refine gi_add ?_ | refine gi_inc rfl ?_ | refine gi_sub (by omega) ?_ | refine gi_mul ?_ | refine go_nx rfl ?_)
        refine go_step ?_
        refine g_callV (by decide) (by decide) (Nat.le_of_ble_eq_true rfl) (Nat.le_of_ble_eq_true rfl) (mSt_rcv hm) (by omega) (Nat.le_of_ble_eq_true rfl) rfl ?_
        rw [show b + i - 1 = b + (i - 1) by omega]
        refine sp_mat hm (by omega) ?_
        rw [hw (i - 1) (by omega)]
        have hBi1 := hB (i - 1)
        repeat (first | refine gi_con ?_ | refine gi_bip (Nat.le_of_ble_eq_true rfl) ?_ | refine gi_sip (Nat.le_of_ble_eq_true rfl) ?_ | refine gi_ldc ?_ | refine gi_add ?_ | refine gi_inc rfl ?_ | refine gi_sub (by omega) ?_ | refine gi_mul ?_ | refine go_nx rfl ?_)
        first | refine gb_lt (by omega) (by omega) (fun c6 => ?_) (fun c6 => ?_) | refine gb_ge (by omega) (by omega) (fun c6 => ?_) (fun c6 => ?_) | refine gb_gt (by omega) (by omega) (fun c6 => ?_) (fun c6 => ?_) | refine gb_le (by omega) (by omega) (fun c6 => ?_) (fun c6 => ?_) | refine gb_eq (by omega) (by omega) (fun c6 => ?_) (fun c6 => ?_) | refine gb_ne (by omega) (by omega) (fun c6 => ?_) (fun c6 => ?_)
        · exact seven (by unfold q_mg; rw [c3, decide_eq_true c6]; simp)
        refine go_jp rfl ?_
        exact six (by unfold q_mg; rw [c, c3, decide_eq_false c2, decide_eq_false c6, decide_eq_false (show ¬ k = 0 by omega), decide_eq_false (show ¬ i = 0 by omega)]; rfl)
      repeat (first | refine gi_con ?_ | refine gi_bip (Nat.le_of_ble_eq_true rfl) ?_ | refine gi_sip (Nat.le_of_ble_eq_true rfl) ?_ | refine gi_ldc ?_ | refine gi_add ?_ | refine gi_inc rfl ?_ | refine gi_sub (by omega) ?_ | refine gi_mul ?_ | refine go_nx rfl ?_)
      first | refine gb_lt (by omega) (by omega) (fun c => ?_) (fun c => ?_) | refine gb_ge (by omega) (by omega) (fun c => ?_) (fun c => ?_) | refine gb_gt (by omega) (by omega) (fun c => ?_) (fun c => ?_) | refine gb_le (by omega) (by omega) (fun c => ?_) (fun c => ?_) | refine gb_eq (by omega) (by omega) (fun c => ?_) (fun c => ?_) | refine gb_ne (by omega) (by omega) (fun c => ?_) (fun c => ?_)
      · omega
      repeat (first | refine gi_con ?_ | refine gi_bip (Nat.le_of_ble_eq_true rfl) ?_ | refine gi_sip (Nat.le_of_ble_eq_true rfl) ?_ | refine gi_ldc ?_ | refine gi_add ?_ | refine gi_inc rfl ?_ | refine gi_sub (by omega) ?_ | refine gi_mul ?_ | refine go_nx rfl ?_)
      refine go_step ?_
      refine g_callV (by decide) (by decide) (Nat.le_of_ble_eq_true rfl) (Nat.le_of_ble_eq_true rfl) (mSt_rcv hm) (by omega) (Nat.le_of_ble_eq_true rfl) rfl ?_
      refine sp_mat hm (by omega) ?_
      rw [hw i (by omega)]
      repeat (first | refine gi_con ?_ | refine gi_bip (Nat.le_of_ble_eq_true rfl) ?_ | refine gi_sip (Nat.le_of_ble_eq_true rfl) ?_ | refine gi_ldc ?_ | refine gi_add ?_ | refine gi_inc rfl ?_ | refine gi_sub (by omega) ?_ | refine gi_mul ?_ | refine go_nx rfl ?_)
      first | refine gb_lt (by omega) (by omega) (fun c2 => ?_) (fun c2 => ?_) | refine gb_ge (by omega) (by omega) (fun c2 => ?_) (fun c2 => ?_) | refine gb_gt (by omega) (by omega) (fun c2 => ?_) (fun c2 => ?_) | refine gb_le (by omega) (by omega) (fun c2 => ?_) (fun c2 => ?_) | refine gb_eq (by omega) (by omega) (fun c2 => ?_) (fun c2 => ?_) | refine gb_ne (by omega) (by omega) (fun c2 => ?_) (fun c2 => ?_)
      · rw [decide_eq_false c2] at five
        repeat (first | refine gi_con ?_ | refine gi_bip (Nat.le_of_ble_eq_true rfl) ?_ | refine gi_sip (Nat.le_of_ble_eq_true rfl) ?_ | refine gi_ldc ?_ | refine gi_add ?_ | refine gi_inc rfl ?_ | refine gi_sub (by omega) ?_ | refine gi_mul ?_ | refine go_nx rfl ?_)
        refine go_jp rfl ?_
        exact five
      · rw [decide_eq_true c2] at five
        repeat (first | refine gi_con ?_ | refine gi_bip (Nat.le_of_ble_eq_true rfl) ?_ | refine gi_sip (Nat.le_of_ble_eq_true rfl) ?_ | refine gi_ldc ?_ | refine gi_add ?_ | refine gi_inc rfl ?_ | refine gi_sub (by omega) ?_ | refine gi_mul ?_ | refine go_nx rfl ?_)
        refine go_jp rfl ?_
        exact five
  have two : ∀ g : Bool, (g = (decide (0 < n) && q_utf B n n 0)) → mm_Go E d 111 (mm_blk 111 2) [.ref o, .int (nI b), .int (nI n), mm_un, mm_un, mm_un, mm_un] [.int (q_t g)] h Q := by
    intro g hg
    repeat (first | refine gi_con ?_ | refine gi_bip (Nat.le_of_ble_eq_true rfl) ?_ | refine gi_sip (Nat.le_of_ble_eq_true rfl) ?_ | refine gi_ldc ?_ | refine gi_add ?_ | refine gi_inc rfl ?_ | refine gi_sub (by omega) ?_ | refine gi_mul ?_ | refine go_nx rfl ?_)
    refine go_jp rfl ?_
    refine loop n 0 g 1 _ (by omega) (by omega) ?_
    have e : q_ms B n 0 g 1 = q_path B n := by
      by_cases h0 : n = 0
      · subst h0
        rw [hg]
        rfl
      · rw [q_ms_steps B n 0 g 1 true 0 (by omega) ⟨fun _ => Or.inl rfl, fun _ => rfl⟩ (by rw [if_pos rfl]), hg, decide_eq_true (by omega), Bool.true_and]
        rfl
    rw [e]
    exact hq
  have one : (false = (decide (0 < n) && q_utf B n n 0)) → mm_Go E d 111 (mm_blk 111 1) [.ref o, .int (nI b), .int (nI n), mm_un, mm_un, mm_un, mm_un] [] h Q := by
    intro hg
    repeat (first | refine gi_con ?_ | refine gi_bip (Nat.le_of_ble_eq_true rfl) ?_ | refine gi_sip (Nat.le_of_ble_eq_true rfl) ?_ | refine gi_ldc ?_ | refine gi_add ?_ | refine gi_inc rfl ?_ | refine gi_sub (by omega) ?_ | refine gi_mul ?_ | refine go_nx rfl ?_)
    refine go_jp rfl ?_
    exact two false hg
  repeat (first | refine gi_con ?_ | refine gi_bip (Nat.le_of_ble_eq_true rfl) ?_ | refine gi_sip (Nat.le_of_ble_eq_true rfl) ?_ | refine gi_ldc ?_ | refine gi_add ?_ | refine gi_inc rfl ?_ | refine gi_sub (by omega) ?_ | refine gi_mul ?_ | refine go_nx rfl ?_)
  first | refine gz_eq (by omega) (fun c => ?_) (fun c => ?_) | refine gz_ne (by omega) (fun c => ?_) (fun c => ?_) | refine gz_le (by omega) (fun c => ?_) (fun c => ?_) | refine gz_gt (by omega) (fun c => ?_) (fun c => ?_) | refine gz_lt (by omega) (fun c => ?_) (fun c => ?_) | refine gz_ge (by omega) (fun c => ?_) (fun c => ?_)
  · exact one (by rw [decide_eq_false (by omega)]; rfl)
  repeat (first | refine gi_con ?_ | refine gi_bip (Nat.le_of_ble_eq_true rfl) ?_ | refine gi_sip (Nat.le_of_ble_eq_true rfl) ?_ | refine gi_ldc ?_ | refine gi_add ?_ | refine gi_inc rfl ?_ | refine gi_sub (by omega) ?_ | refine gi_mul ?_ | refine go_nx rfl ?_)
  refine go_step ?_
  refine g_callV (by decide) (by decide) (Nat.le_of_ble_eq_true rfl) (Nat.le_of_ble_eq_true rfl) (mSt_rcv hm) (by omega) (Nat.le_of_ble_eq_true rfl) rfl ?_
  refine sp_mtext (p := 0) (by omega) hm hw (by omega) he hB ?_
  rw [Nat.sub_zero]
  repeat (first | refine gi_con ?_ | refine gi_bip (Nat.le_of_ble_eq_true rfl) ?_ | refine gi_sip (Nat.le_of_ble_eq_true rfl) ?_ | refine gi_ldc ?_ | refine gi_add ?_ | refine gi_inc rfl ?_ | refine gi_sub (by omega) ?_ | refine gi_mul ?_ | refine go_nx rfl ?_)
  first | refine gt_eq (fun c2 => ?_) (fun c2 => ?_) | refine gt_ne (fun c2 => ?_) (fun c2 => ?_)
  · exact one (by rw [c2, Bool.and_false])
  repeat (first | refine gi_con ?_ | refine gi_bip (Nat.le_of_ble_eq_true rfl) ?_ | refine gi_sip (Nat.le_of_ble_eq_true rfl) ?_ | refine gi_ldc ?_ | refine gi_add ?_ | refine gi_inc rfl ?_ | refine gi_sub (by omega) ?_ | refine gi_mul ?_ | refine go_nx rfl ?_)
  refine go_jp rfl ?_
  exact two true (by rw [c2, decide_eq_true c]; rfl)
/-- what q_bytes = 0 says -/
theorem q_by_0 (A B : Nat → Nat) (n m : Nat) : ∀ k i, (q_by A B n m k i = 0 ↔ n = m ∧ ∀ j, i ≤ j → j < i + k → A j = B j) := by
  intro k
  induction k with
  | zero =>
    intro i
    unfold q_by
    rw [q_c3_0]
    exact ⟨fun q => ⟨q, fun j h1 h2 => by omega⟩, fun q => q.1⟩
  | succ k ih =>
    intro i
    unfold q_by
    by_cases h : A i = B i
    · rw [if_pos h, ih]
      refine ⟨fun q => ⟨q.1, fun j h1 h2 => ?_⟩, fun q => ⟨q.1, fun j h1 h2 => q.2 j (by omega) (by omega)⟩⟩
      by_cases hj : j = i
      · rw [hj]; exact h
      · exact q.2 j (by omega) (by omega)
    · rw [if_neg h, q_c3_0]
      exact ⟨fun q => absurd q h, fun q => q.2 i (by omega) (by omega)⟩
theorem q_bytes_0 {A B : Nat → Nat} {n m : Nat} : q_bytes A n B m = 0 ↔ n = m ∧ ∀ j, j < n → A j = B j := by
  unfold q_bytes
  rw [q_by_0]
  exact ⟨fun q => ⟨q.1, fun j hj => q.2 j (by omega) (by omega)⟩, fun q => ⟨q.1, fun j _ h2 => q.2 j (by omega)⟩⟩
theorem sp_malike {E : mmE} {d : Nat} {h : mmH} {Q : Option Value → mmH → Prop} {o st a b n m : Nat} {R A B : Nat → Nat} (hm : mSt h o st R) (ha : ∀ j, j ≤ n → R (a + j) = A j) (hb : ∀ j, j ≤ m → R (b + j) = B j) (hA : A n = 0) (hB : B m = 0) (hA0 : ∀ j, j < n → A j ≠ 0) (hB0 : ∀ j, j < m → B j ≠ 0) (h1 : a + n < 22100) (h2 : b + m < 22100) (hq : Q (some (.int (q_t (decide (q_bytes A n B m = 0))))) h) : mm_Go E d 121 (mm_blk 121 0) [.ref o, .int (nI a), .int (nI b), mm_un] [] h Q := by
  have hR := hm.2.2
  have loop : ∀ (k i : Nat), k + i = n → i ≤ m → (∀ j, j < i → A j = B j) → mm_Go E d 121 (mm_blk 121 1) [.ref o, .int (nI a), .int (nI b), .int (nI i)] [] h Q := by
    intro k
    induction k with
    | zero =>
      intro i hk him heq
      have hin : i = n := by omega
      subst hin
      have two : mm_Go E d 121 (mm_blk 121 2) [.ref o, .int (nI a), .int (nI b), .int (nI i)] [] h Q := by
        repeat (first | refine gi_con ?_ | refine gi_bip (Nat.le_of_ble_eq_true rfl) ?_ | refine gi_sip (Nat.le_of_ble_eq_true rfl) ?_ | refine gi_ldc ?_ | refine gi_add ?_ | refine gi_inc rfl ?_ | refine gi_sub (by omega) ?_ | refine gi_mul ?_ | refine go_nx rfl ?_)
        refine gm_gs hm rfl ?_
        repeat (first | refine gi_con ?_ | refine gi_bip (Nat.le_of_ble_eq_true rfl) ?_ | refine gi_sip (Nat.le_of_ble_eq_true rfl) ?_ | refine gi_ldc ?_ | refine gi_add ?_ | refine gi_inc rfl ?_ | refine gi_sub (by omega) ?_ | refine gi_mul ?_ | refine go_nx rfl ?_)
        refine gm_ld hm (by omega) ?_
        repeat (first | refine gi_con ?_ | refine gi_bip (Nat.le_of_ble_eq_true rfl) ?_ | refine gi_sip (Nat.le_of_ble_eq_true rfl) ?_ | refine gi_ldc ?_ | refine gi_add ?_ | refine gi_inc rfl ?_ | refine gi_sub (by omega) ?_ | refine gi_mul ?_ | refine go_nx rfl ?_)
        refine gm_gs hm rfl ?_
        repeat (first | refine gi_con ?_ | refine gi_bip (Nat.le_of_ble_eq_true rfl) ?_ | refine gi_sip (Nat.le_of_ble_eq_true rfl) ?_ | refine gi_ldc ?_ | refine gi_add ?_ | refine gi_inc rfl ?_ | refine gi_sub (by omega) ?_ | refine gi_mul ?_ | refine go_nx rfl ?_)
        refine gm_ld hm (by omega) ?_
        refine gs_bne (hR _) (hR _) (fun c => ?_) (fun c => ?_)
        · rw [decide_eq_false (fun q => c (by
            have q1 := (q_bytes_0.mp q).1
            rw [ha i (by omega), hb i (by omega), hA, q1, hB]))] at hq
          repeat (first | refine gi_con ?_ | refine gi_bip (Nat.le_of_ble_eq_true rfl) ?_ | refine gi_sip (Nat.le_of_ble_eq_true rfl) ?_ | refine gi_ldc ?_ | refine gi_add ?_ | refine gi_inc rfl ?_ | refine gi_sub (by omega) ?_ | refine gi_mul ?_ | refine go_nx rfl ?_)
          refine go_jp rfl ?_
          refine go_rt rfl ?_
          exact hq
        · rw [decide_eq_true (q_bytes_0.mpr ⟨by
            rw [ha i (by omega), hb i (by omega), hA] at c
            by_cases hlt : i < m
            · exact absurd c.symm (hB0 i hlt)
            · omega, heq⟩)] at hq
          repeat (first | refine gi_con ?_ | refine gi_bip (Nat.le_of_ble_eq_true rfl) ?_ | refine gi_sip (Nat.le_of_ble_eq_true rfl) ?_ | refine gi_ldc ?_ | refine gi_add ?_ | refine gi_inc rfl ?_ | refine gi_sub (by omega) ?_ | refine gi_mul ?_ | refine go_nx rfl ?_)
          refine go_jp rfl ?_
          refine go_rt rfl ?_
          exact hq
      repeat (first | refine gi_con ?_ | refine gi_bip (Nat.le_of_ble_eq_true rfl) ?_ | refine gi_sip (Nat.le_of_ble_eq_true rfl) ?_ | refine gi_ldc ?_ | refine gi_add ?_ | refine gi_inc rfl ?_ | refine gi_sub (by omega) ?_ | refine gi_mul ?_ | refine go_nx rfl ?_)
      refine gm_gs hm rfl ?_
      repeat (first | refine gi_con ?_ | refine gi_bip (Nat.le_of_ble_eq_true rfl) ?_ | refine gi_sip (Nat.le_of_ble_eq_true rfl) ?_ | refine gi_ldc ?_ | refine gi_add ?_ | refine gi_inc rfl ?_ | refine gi_sub (by omega) ?_ | refine gi_mul ?_ | refine go_nx rfl ?_)
      refine gm_ld hm (by omega) ?_
      repeat (first | refine gi_con ?_ | refine gi_bip (Nat.le_of_ble_eq_true rfl) ?_ | refine gi_sip (Nat.le_of_ble_eq_true rfl) ?_ | refine gi_ldc ?_ | refine gi_add ?_ | refine gi_inc rfl ?_ | refine gi_sub (by omega) ?_ | refine gi_mul ?_ | refine go_nx rfl ?_)
      refine gm_gs hm rfl ?_
      repeat (first | refine gi_con ?_ | refine gi_bip (Nat.le_of_ble_eq_true rfl) ?_ | refine gi_sip (Nat.le_of_ble_eq_true rfl) ?_ | refine gi_ldc ?_ | refine gi_add ?_ | refine gi_inc rfl ?_ | refine gi_sub (by omega) ?_ | refine gi_mul ?_ | refine go_nx rfl ?_)
      refine gm_ld hm (by omega) ?_
      refine gs_bne (hR _) (hR _) (fun c => two) (fun c => ?_)
      repeat (first | refine gi_con ?_ | refine gi_bip (Nat.le_of_ble_eq_true rfl) ?_ | refine gi_sip (Nat.le_of_ble_eq_true rfl) ?_ | refine gi_ldc ?_ | refine gi_add ?_ | refine gi_inc rfl ?_ | refine gi_sub (by omega) ?_ | refine gi_mul ?_ | refine go_nx rfl ?_)
      refine gm_gs hm rfl ?_
      repeat (first | refine gi_con ?_ | refine gi_bip (Nat.le_of_ble_eq_true rfl) ?_ | refine gi_sip (Nat.le_of_ble_eq_true rfl) ?_ | refine gi_ldc ?_ | refine gi_add ?_ | refine gi_inc rfl ?_ | refine gi_sub (by omega) ?_ | refine gi_mul ?_ | refine go_nx rfl ?_)
      refine gm_ld hm (by omega) ?_
      refine gs_eq (hR _) (fun c => two) (fun c2 => ?_)
      exact absurd (by rw [ha i (by omega), hA]) c2
    | succ k ih =>
      intro i hk him heq
      have two : R (a + i) ≠ R (b + i) → mm_Go E d 121 (mm_blk 121 2) [.ref o, .int (nI a), .int (nI b), .int (nI i)] [] h Q := by
        intro hne
        repeat (first | refine gi_con ?_ | refine gi_bip (Nat.le_of_ble_eq_true rfl) ?_ | refine gi_sip (Nat.le_of_ble_eq_true rfl) ?_ | refine gi_ldc ?_ | refine gi_add ?_ | refine gi_inc rfl ?_ | refine gi_sub (by omega) ?_ | refine gi_mul ?_ | refine go_nx rfl ?_)
        refine gm_gs hm rfl ?_
        repeat (first | refine gi_con ?_ | refine gi_bip (Nat.le_of_ble_eq_true rfl) ?_ | refine gi_sip (Nat.le_of_ble_eq_true rfl) ?_ | refine gi_ldc ?_ | refine gi_add ?_ | refine gi_inc rfl ?_ | refine gi_sub (by omega) ?_ | refine gi_mul ?_ | refine go_nx rfl ?_)
        refine gm_ld hm (by omega) ?_
        repeat (first | refine gi_con ?_ | refine gi_bip (Nat.le_of_ble_eq_true rfl) ?_ | refine gi_sip (Nat.le_of_ble_eq_true rfl) ?_ | refine gi_ldc ?_ | refine gi_add ?_ | refine gi_inc rfl ?_ | refine gi_sub (by omega) ?_ | refine gi_mul ?_ | refine go_nx rfl ?_)
        refine gm_gs hm rfl ?_
        repeat (first | refine gi_con ?_ | refine gi_bip (Nat.le_of_ble_eq_true rfl) ?_ | refine gi_sip (Nat.le_of_ble_eq_true rfl) ?_ | refine gi_ldc ?_ | refine gi_add ?_ | refine gi_inc rfl ?_ | refine gi_sub (by omega) ?_ | refine gi_mul ?_ | refine go_nx rfl ?_)
        refine gm_ld hm (by omega) ?_
        refine gs_bne (hR _) (hR _) (fun c => ?_) (fun c => absurd c hne)
        rw [decide_eq_false (fun q => by
          obtain ⟨q1, q2⟩ := q_bytes_0.mp q
          exact hne (by rw [ha i (by omega), hb i (by omega), q2 i (by omega)]))] at hq
        repeat (first | refine gi_con ?_ | refine gi_bip (Nat.le_of_ble_eq_true rfl) ?_ | refine gi_sip (Nat.le_of_ble_eq_true rfl) ?_ | refine gi_ldc ?_ | refine gi_add ?_ | refine gi_inc rfl ?_ | refine gi_sub (by omega) ?_ | refine gi_mul ?_ | refine go_nx rfl ?_)
        refine go_jp rfl ?_
        refine go_rt rfl ?_
        exact hq
      repeat (first | refine gi_con ?_ | refine gi_bip (Nat.le_of_ble_eq_true rfl) ?_ | refine gi_sip (Nat.le_of_ble_eq_true rfl) ?_ | refine gi_ldc ?_ | refine gi_add ?_ | refine gi_inc rfl ?_ | refine gi_sub (by omega) ?_ | refine gi_mul ?_ | refine go_nx rfl ?_)
      refine gm_gs hm rfl ?_
      repeat (first | refine gi_con ?_ | refine gi_bip (Nat.le_of_ble_eq_true rfl) ?_ | refine gi_sip (Nat.le_of_ble_eq_true rfl) ?_ | refine gi_ldc ?_ | refine gi_add ?_ | refine gi_inc rfl ?_ | refine gi_sub (by omega) ?_ | refine gi_mul ?_ | refine go_nx rfl ?_)
      refine gm_ld hm (by omega) ?_
      repeat (first | refine gi_con ?_ | refine gi_bip (Nat.le_of_ble_eq_true rfl) ?_ | refine gi_sip (Nat.le_of_ble_eq_true rfl) ?_ | refine gi_ldc ?_ | refine gi_add ?_ | refine gi_inc rfl ?_ | refine gi_sub (by omega) ?_ | refine gi_mul ?_ | refine go_nx rfl ?_)
      refine gm_gs hm rfl ?_
      repeat (first | refine gi_con ?_ | refine gi_bip (Nat.le_of_ble_eq_true rfl) ?_ | refine gi_sip (Nat.le_of_ble_eq_true rfl) ?_ | refine gi_ldc ?_ | refine gi_add ?_ | refine gi_inc rfl ?_ | refine gi_sub (by omega) ?_ | refine gi_mul ?_ | refine go_nx rfl ?_)
      refine gm_ld hm (by omega) ?_
      refine gs_bne (hR _) (hR _) (fun c => two c) (fun c => ?_)
      repeat (first | refine gi_con ?_ | refine gi_bip (Nat.le_of_ble_eq_true rfl) ?_ | refine gi_sip (Nat.le_of_ble_eq_true rfl) ?_ | refine gi_ldc ?_ | refine gi_add ?_ | refine gi_inc rfl ?_ | refine gi_sub (by omega) ?_ | refine gi_mul ?_ | refine go_nx rfl ?_)
      refine gm_gs hm rfl ?_
      repeat (first | refine gi_con ?_ | refine gi_bip (Nat.le_of_ble_eq_true rfl) ?_ | refine gi_sip (Nat.le_of_ble_eq_true rfl) ?_ | refine gi_ldc ?_ | refine gi_add ?_ | refine gi_inc rfl ?_ | refine gi_sub (by omega) ?_ | refine gi_mul ?_ | refine go_nx rfl ?_)
      refine gm_ld hm (by omega) ?_
      refine gs_eq (hR _) (fun c2 => ?_) (fun c2 => ?_)
      · rw [ha i (by omega)] at c2
        exact absurd c2 (hA0 i (by omega))
      · repeat (first | refine gi_con ?_ | refine gi_bip (Nat.le_of_ble_eq_true rfl) ?_ | refine gi_sip (Nat.le_of_ble_eq_true rfl) ?_ | refine gi_ldc ?_ | refine gi_add ?_ | refine gi_inc rfl ?_ | refine gi_sub (by omega) ?_ | refine gi_mul ?_ | refine go_nx rfl ?_)
        refine go_jp rfl ?_
        rw [ha i (by omega), hb i (by omega)] at c
        refine ih (i + 1) (by omega) ?_ (fun j hj => ?_)
        · by_cases hlt : i < m
          · omega
          · have him' : i = m := by omega
            rw [him', hB, ← him'] at c
            exact absurd c (hA0 i (by omega))
        · by_cases hj2 : j = i
          · rw [hj2]; exact c
          · exact heq j (by omega)
  repeat (first | refine gi_con ?_ | refine gi_bip (Nat.le_of_ble_eq_true rfl) ?_ | refine gi_sip (Nat.le_of_ble_eq_true rfl) ?_ | refine gi_ldc ?_ | refine gi_add ?_ | refine gi_inc rfl ?_ | refine gi_sub (by omega) ?_ | refine gi_mul ?_ | refine go_nx rfl ?_)
  refine go_jp rfl ?_
  exact loop n 0 (by omega) (by omega) (fun j hj => by omega)
