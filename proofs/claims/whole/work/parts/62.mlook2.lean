/-! THE REFERENCE: lookPath, lookJoin, lookFilter, lookConditions -/
section M
variable {E : mmE} {h : mmH} {o n b : Nat} {ad : Nat → Nat} {I : Nat → Int32} {C : Nat → Nat → Int32} {R B : Nat → Nat}
/-- what is known at the end: the fault, and the count if there is none -/
def mEnd (h : mmH) (o : Nat) (ad : Nat → Nat) (I : Nat → Int32) (C : Nat → Nat → Int32) (Q : Option Value → mmH → Prop) (r : Nat × Nat) : Prop := ∀ c', (r.1 = 0 → c' = r.2) → Q none (mH h o ad (mI I c' r.1) C)
theorem mEnd_f {Q : Option Value → mmH → Prop} {x c c1 : Nat} (hq : mEnd h o ad I C Q (x, c)) (hx : x ≠ 0) : Q none (mH h o ad (mI I c1 x) C) := hq c1 (fun q => absurd q hx)
theorem sp_mlookPath {d : Nat} {Q : Option Value → mmH → Prop} {e c : Nat} {X : Nat → Nat × Nat} (hd : 5 ≤ d) (hD : mD o ad) (hC : ∀ j, j < 22100 → C 1 j = sb_b (R j)) (hR : ∀ j, R j < 256) (hw : mW R b n B) (hok : q_ok B n e) (h36 : B (e + 1) ≠ 36) (hu : q_u8 B e = true) (hc : c ≤ 100)
    (hX : q_cond B e = true → ∀ (c : Nat) (Q' : Option Value → mmH → Prop), c ≤ 100 → mEnd h o ad I C Q' (X c) → mm_Go E (d - 1) 136 (mm_blk 136 0) [.ref o, .int (nI (b + q_val B e)), mm_un, mm_un, mm_un, mm_un, mm_un] [] (mH h o ad (mI I c 0) C) Q')
    (hq : mEnd h o ad I C Q (if q_gp B e = false then (3, c) else if q_cond B e = true then q_then (q_cnt c 1) X else q_cnt c 2)) : mm_Go E d 134 (mm_blk 134 0) [.ref o, .int (nI (b + e)), mm_un, mm_un, mm_un] [] (mH h o ad (mI I c 0) C) Q := by
  have w2 := hw.2.1
  have hrn := hw.2.2.1
  have hm : ∀ I, mSt (mH h o ad I C) o (ad 1) R := fun I => mH_st hD hC hR
  have hne := q_ne_is hw.2.2 (show e ≤ 2000 by have := hok.1; omega)
  have hnl := hok.2.1
  have six : ∀ (f : Nat) (g : Bool) (x4 : Value), (f = 0 ∧ q_gp B e = true ∨ f = 3 ∧ q_gp B e = false) → mm_Go E d 134 (mm_blk 134 6) [.ref o, .int (nI (b + e)), .int (nI (q_ne B e - (e + 1))), .int (q_t g), x4] [] (mH h o ad (mI I c f) C) Q := by
    intro f g x4 hf
    have hf3 : f < 100 := by omega
    have eight : ∀ (m : Nat), m = (if q_cond B e = true then 1 else 2) → mm_Go E d 134 (mm_blk 134 8) [.ref o, .int (nI (b + e)), .int (nI (q_ne B e - (e + 1))), .int (q_t g), .int (q_t (q_cond B e))] [.int (nI m), .ref o] (mH h o ad (mI I c f) C) Q := by
      intro m hmm
      have hm2 : m ≤ 2 := by rw [hmm]; split <;> omega
      refine go_step ?_
      refine g_callV (by decide) (by decide) (Nat.le_of_ble_eq_true rfl) (Nat.le_of_ble_eq_true rfl) mH_rcv (by omega) (Nat.le_of_ble_eq_true rfl) rfl ?_
      refine sp_mcounts (by omega) hm2 (by omega) hf3 ?_
      have nine : ∀ (f2 : Nat), f2 < 100 → (q_cond B e = true → f2 ≠ 0) → f2 = (if 100 < c + m then (if f = 0 then 5 else f) else f) → mm_Go E d 134 (mm_blk 134 9) [.ref o, .int (nI (b + e)), .int (nI (q_ne B e - (e + 1))), .int (q_t g), .int (q_t (q_cond B e))] [] (mH h o ad (mI I (c + m) f2) C) Q := by
        intro f2 hf2 h1 h2
        refine go_rt rfl ?_
        rcases hf with hf | hf
        · rw [hf.2, if_neg (by decide)] at hq
          rw [hf.1, if_pos rfl] at h2
          by_cases hcd : q_cond B e = true
          · rw [if_pos hcd] at hq hmm
            subst hmm
            have h3 := h1 hcd
            have h4 : 100 < c + 1 := by
              by_cases h4 : 100 < c + 1
              · exact h4
              · rw [if_neg h4] at h2; omega
            rw [if_pos h4] at h2
            subst h2
            unfold q_then q_cnt at hq
            rw [if_pos h4, if_neg (show ¬ (5 : Nat) = 0 by decide)] at hq
            exact mEnd_f hq (by decide)
          · rw [if_neg hcd] at hq hmm
            subst hmm
            unfold q_cnt at hq
            by_cases h4 : 100 < c + 2
            · rw [if_pos h4] at h2 hq
              subst h2
              exact mEnd_f hq (by decide)
            · rw [if_neg h4] at h2 hq
              subst h2
              exact hq (c + 2) (fun _ => rfl)
        · rw [hf.2, if_pos rfl] at hq
          have : f2 = 3 := by rw [h2, hf.1]; split <;> rfl
          subst this
          exact mEnd_f hq (by decide)
      have hf2 : (if 100 < c + m then (if f = 0 then 5 else f) else f) < 100 := by
        split
        · split <;> omega
        · omega
      repeat (first | refine gi_con ?_ | refine gi_bip (Nat.le_of_ble_eq_true rfl) ?_ | refine gi_sip (Nat.le_of_ble_eq_true rfl) ?_ | refine gi_ldc ?_ | refine gi_add ?_ | refine gi_inc rfl ?_ | refine gi_sub (by omega) ?_ | refine gi_mul ?_ | refine go_nx rfl ?_)
      first | refine gt_eq (fun c1 => ?_) (fun c1 => ?_) | refine gt_ne (fun c1 => ?_) (fun c1 => ?_)
      · exact nine _ hf2 (fun q => by rw [c1] at q; cases q) rfl
      repeat (first | refine gi_con ?_ | refine gi_bip (Nat.le_of_ble_eq_true rfl) ?_ | refine gi_sip (Nat.le_of_ble_eq_true rfl) ?_ | refine gi_ldc ?_ | refine gi_add ?_ | refine gi_inc rfl ?_ | refine gi_sub (by omega) ?_ | refine gi_mul ?_ | refine go_nx rfl ?_)
      refine gm_get (.int (nI (if 100 < c + m then (if f = 0 then 5 else f) else f))) rfl rfl ?_
      first | refine gz_eq (by omega) (fun c2 => ?_) (fun c2 => ?_) | refine gz_ne (by omega) (fun c2 => ?_) (fun c2 => ?_) | refine gz_le (by omega) (fun c2 => ?_) (fun c2 => ?_) | refine gz_gt (by omega) (fun c2 => ?_) (fun c2 => ?_) | refine gz_lt (by omega) (fun c2 => ?_) (fun c2 => ?_) | refine gz_ge (by omega) (fun c2 => ?_) (fun c2 => ?_)
      · exact nine _ hf2 (fun _ => by omega) rfl
      have hf0 : f = 0 ∧ ¬ 100 < c + m := by
        by_cases h4 : 100 < c + m
        · rw [if_pos h4] at c2
          split at c2 <;> omega
        · rw [if_neg h4] at c2
          exact ⟨c2, h4⟩
      have hgp : q_gp B e = true := by
        rcases hf with hf | hf
        · exact hf.2
        · omega
      rw [if_pos c1] at hmm
      subst hmm
      rw [hgp, if_neg (by decide), if_pos c1] at hq
      unfold q_then q_cnt at hq
      rw [if_neg hf0.2, if_pos rfl] at hq
      rw [c2]
      repeat (first | refine gi_con ?_ | refine gi_bip (Nat.le_of_ble_eq_true rfl) ?_ | refine gi_sip (Nat.le_of_ble_eq_true rfl) ?_ | refine gi_ldc ?_ | refine gi_add ?_ | refine gi_inc rfl ?_ | refine gi_sub (by omega) ?_ | refine gi_mul ?_ | refine go_nx rfl ?_)
      refine go_step ?_
      refine g_callV (by decide) (by decide) (Nat.le_of_ble_eq_true rfl) (Nat.le_of_ble_eq_true rfl) mH_rcv (by omega) (Nat.le_of_ble_eq_true rfl) rfl ?_
      refine sp_mval (by omega) (hm _) hw hnl ?_
      repeat (first | refine gi_con ?_ | refine gi_bip (Nat.le_of_ble_eq_true rfl) ?_ | refine gi_sip (Nat.le_of_ble_eq_true rfl) ?_ | refine gi_ldc ?_ | refine gi_add ?_ | refine gi_inc rfl ?_ | refine gi_sub (by omega) ?_ | refine gi_mul ?_ | refine go_nx rfl ?_)
      refine go_step ?_
      refine g_callV (by decide) (by decide) (Nat.le_of_ble_eq_true rfl) (Nat.le_of_ble_eq_true rfl) mH_rcv (by omega) (Nat.le_of_ble_eq_true rfl) rfl ?_
      refine hX c1 (c + 1) _ (by omega) (fun c' hc' => ?_)
      repeat (first | refine gi_con ?_ | refine gi_bip (Nat.le_of_ble_eq_true rfl) ?_ | refine gi_sip (Nat.le_of_ble_eq_true rfl) ?_ | refine gi_ldc ?_ | refine gi_add ?_ | refine gi_inc rfl ?_ | refine gi_sub (by omega) ?_ | refine gi_mul ?_ | refine go_nx rfl ?_)
      refine go_jp rfl ?_
      refine go_rt rfl ?_
      exact hq c' hc'
    repeat (first | refine gi_con ?_ | refine gi_bip (Nat.le_of_ble_eq_true rfl) ?_ | refine gi_sip (Nat.le_of_ble_eq_true rfl) ?_ | refine gi_ldc ?_ | refine gi_add ?_ | refine gi_inc rfl ?_ | refine gi_sub (by omega) ?_ | refine gi_mul ?_ | refine go_nx rfl ?_)
    refine go_step ?_
    refine g_callV (by decide) (by decide) (Nat.le_of_ble_eq_true rfl) (Nat.le_of_ble_eq_true rfl) mH_rcv (by omega) (Nat.le_of_ble_eq_true rfl) rfl ?_
    refine sp_miscond (by omega) (hm _) hw hok ?_
    repeat (first | refine gi_con ?_ | refine gi_bip (Nat.le_of_ble_eq_true rfl) ?_ | refine gi_sip (Nat.le_of_ble_eq_true rfl) ?_ | refine gi_ldc ?_ | refine gi_add ?_ | refine gi_inc rfl ?_ | refine gi_sub (by omega) ?_ | refine gi_mul ?_ | refine go_nx rfl ?_)
    first | refine gt_eq (fun c1 => ?_) (fun c1 => ?_) | refine gt_ne (fun c1 => ?_) (fun c1 => ?_)
    · repeat (first | refine gi_con ?_ | refine gi_bip (Nat.le_of_ble_eq_true rfl) ?_ | refine gi_sip (Nat.le_of_ble_eq_true rfl) ?_ | refine gi_ldc ?_ | refine gi_add ?_ | refine gi_inc rfl ?_ | refine gi_sub (by omega) ?_ | refine gi_mul ?_ | refine go_nx rfl ?_)
      refine go_jp rfl ?_
      exact eight 2 (by rw [c1]; rfl)
    · repeat (first | refine gi_con ?_ | refine gi_bip (Nat.le_of_ble_eq_true rfl) ?_ | refine gi_sip (Nat.le_of_ble_eq_true rfl) ?_ | refine gi_ldc ?_ | refine gi_add ?_ | refine gi_inc rfl ?_ | refine gi_sub (by omega) ?_ | refine gi_mul ?_ | refine go_nx rfl ?_)
      refine go_jp rfl ?_
      exact eight 1 (by rw [c1]; rfl)
  have loop : ∀ (k i : Nat) (g : Bool), k + i = q_ne B e - (e + 2) → (g && q_nd B k (e + 2 + i)) = q_gp B e → mm_Go E d 134 (mm_blk 134 1) [.ref o, .int (nI (b + e)), .int (nI (q_ne B e - (e + 1))), .int (q_t g), .int (nI (b + (e + 2 + i)))] [] (mH h o ad (mI I c 0) C) Q := by
    intro k
    induction k with
    | zero =>
      intro i g hk hg
      unfold q_nd at hg
      rw [Bool.and_true] at hg
      repeat (first | refine gi_con ?_ | refine gi_bip (Nat.le_of_ble_eq_true rfl) ?_ | refine gi_sip (Nat.le_of_ble_eq_true rfl) ?_ | refine gi_ldc ?_ | refine gi_add ?_ | refine gi_inc rfl ?_ | refine gi_sub (by omega) ?_ | refine gi_mul ?_ | refine go_nx rfl ?_)
      first | refine gb_lt (by omega) (by omega) (fun c1 => ?_) (fun c1 => ?_) | refine gb_ge (by omega) (by omega) (fun c1 => ?_) (fun c1 => ?_) | refine gb_gt (by omega) (by omega) (fun c1 => ?_) (fun c1 => ?_) | refine gb_le (by omega) (by omega) (fun c1 => ?_) (fun c1 => ?_) | refine gb_eq (by omega) (by omega) (fun c1 => ?_) (fun c1 => ?_) | refine gb_ne (by omega) (by omega) (fun c1 => ?_) (fun c1 => ?_)
      · repeat (first | refine gi_con ?_ | refine gi_bip (Nat.le_of_ble_eq_true rfl) ?_ | refine gi_sip (Nat.le_of_ble_eq_true rfl) ?_ | refine gi_ldc ?_ | refine gi_add ?_ | refine gi_inc rfl ?_ | refine gi_sub (by omega) ?_ | refine gi_mul ?_ | refine go_nx rfl ?_)
        first | refine gt_eq (fun c2 => ?_) (fun c2 => ?_) | refine gt_ne (fun c2 => ?_) (fun c2 => ?_)
        · exact six 0 _ _ (Or.inl ⟨rfl, by rw [← hg]; exact c2⟩)
        · repeat (first | refine gi_con ?_ | refine gi_bip (Nat.le_of_ble_eq_true rfl) ?_ | refine gi_sip (Nat.le_of_ble_eq_true rfl) ?_ | refine gi_ldc ?_ | refine gi_add ?_ | refine gi_inc rfl ?_ | refine gi_sub (by omega) ?_ | refine gi_mul ?_ | refine go_nx rfl ?_)
          refine go_step ?_
          refine g_callV (by decide) (by decide) (Nat.le_of_ble_eq_true rfl) (Nat.le_of_ble_eq_true rfl) mH_rcv (by omega) (Nat.le_of_ble_eq_true rfl) rfl ?_
          refine sp_mfails (by omega) ?_
          repeat (first | refine gi_con ?_ | refine gi_bip (Nat.le_of_ble_eq_true rfl) ?_ | refine gi_sip (Nat.le_of_ble_eq_true rfl) ?_ | refine gi_ldc ?_ | refine gi_add ?_ | refine gi_inc rfl ?_ | refine gi_sub (by omega) ?_ | refine gi_mul ?_ | refine go_nx rfl ?_)
          refine go_jp rfl ?_
          exact six 3 _ _ (Or.inr ⟨rfl, by rw [← hg]; exact c2⟩)
      · omega
    | succ k ih =>
      intro i g hk hg
      unfold q_nd at hg
      have hB1 := hw.2.2.2.1 (e + 2 + i)
      have hB2 := hw.2.2.2.1 (e + 2 + i - 1)
      have four : ∀ g2 : Bool, (g && !(decide (B (e + 2 + i) = 36) && decide (B (e + 2 + i - 1) = 46))) = g2 → mm_Go E d 134 (mm_blk 134 4) [.ref o, .int (nI (b + e)), .int (nI (q_ne B e - (e + 1))), .int (q_t g), .int (nI (b + (e + 2 + i)))] [.int (q_t g2)] (mH h o ad (mI I c 0) C) Q := by
        intro g2 hg2
        rw [← Bool.and_assoc, hg2] at hg
        repeat (first | refine gi_con ?_ | refine gi_bip (Nat.le_of_ble_eq_true rfl) ?_ | refine gi_sip (Nat.le_of_ble_eq_true rfl) ?_ | refine gi_ldc ?_ | refine gi_add ?_ | refine gi_inc rfl ?_ | refine gi_sub (by omega) ?_ | refine gi_mul ?_ | refine go_nx rfl ?_)
        refine go_jp rfl ?_
        exact ih (i + 1) g2 (by omega) hg
      have three : (g && !(decide (B (e + 2 + i) = 36) && decide (B (e + 2 + i - 1) = 46))) = false → mm_Go E d 134 (mm_blk 134 3) [.ref o, .int (nI (b + e)), .int (nI (q_ne B e - (e + 1))), .int (q_t g), .int (nI (b + (e + 2 + i)))] [] (mH h o ad (mI I c 0) C) Q := by
        intro hh
        repeat (first | refine gi_con ?_ | refine gi_bip (Nat.le_of_ble_eq_true rfl) ?_ | refine gi_sip (Nat.le_of_ble_eq_true rfl) ?_ | refine gi_ldc ?_ | refine gi_add ?_ | refine gi_inc rfl ?_ | refine gi_sub (by omega) ?_ | refine gi_mul ?_ | refine go_nx rfl ?_)
        refine go_jp rfl ?_
        exact four false hh
      have two : (g && !(decide (B (e + 2 + i) = 36) && decide (B (e + 2 + i - 1) = 46))) = true → mm_Go E d 134 (mm_blk 134 2) [.ref o, .int (nI (b + e)), .int (nI (q_ne B e - (e + 1))), .int (q_t g), .int (nI (b + (e + 2 + i)))] [] (mH h o ad (mI I c 0) C) Q := by
        intro hh
        repeat (first | refine gi_con ?_ | refine gi_bip (Nat.le_of_ble_eq_true rfl) ?_ | refine gi_sip (Nat.le_of_ble_eq_true rfl) ?_ | refine gi_ldc ?_ | refine gi_add ?_ | refine gi_inc rfl ?_ | refine gi_sub (by omega) ?_ | refine gi_mul ?_ | refine go_nx rfl ?_)
        refine go_jp rfl ?_
        exact four true hh
      repeat (first | refine gi_con ?_ | refine gi_bip (Nat.le_of_ble_eq_true rfl) ?_ | refine gi_sip (Nat.le_of_ble_eq_true rfl) ?_ | refine gi_ldc ?_ | refine gi_add ?_ | refine gi_inc rfl ?_ | refine gi_sub (by omega) ?_ | refine gi_mul ?_ | refine go_nx rfl ?_)
      first | refine gb_lt (by omega) (by omega) (fun c1 => ?_) (fun c1 => ?_) | refine gb_ge (by omega) (by omega) (fun c1 => ?_) (fun c1 => ?_) | refine gb_gt (by omega) (by omega) (fun c1 => ?_) (fun c1 => ?_) | refine gb_le (by omega) (by omega) (fun c1 => ?_) (fun c1 => ?_) | refine gb_eq (by omega) (by omega) (fun c1 => ?_) (fun c1 => ?_) | refine gb_ne (by omega) (by omega) (fun c1 => ?_) (fun c1 => ?_)
      · omega
      repeat (first | refine gi_con ?_ | refine gi_bip (Nat.le_of_ble_eq_true rfl) ?_ | refine gi_sip (Nat.le_of_ble_eq_true rfl) ?_ | refine gi_ldc ?_ | refine gi_add ?_ | refine gi_inc rfl ?_ | refine gi_sub (by omega) ?_ | refine gi_mul ?_ | refine go_nx rfl ?_)
      first | refine gt_eq (fun c2 => ?_) (fun c2 => ?_) | refine gt_ne (fun c2 => ?_) (fun c2 => ?_)
      · exact three (by rw [c2]; rfl)
      repeat (first | refine gi_con ?_ | refine gi_bip (Nat.le_of_ble_eq_true rfl) ?_ | refine gi_sip (Nat.le_of_ble_eq_true rfl) ?_ | refine gi_ldc ?_ | refine gi_add ?_ | refine gi_inc rfl ?_ | refine gi_sub (by omega) ?_ | refine gi_mul ?_ | refine go_nx rfl ?_)
      refine go_step ?_
      refine g_callV (by decide) (by decide) (Nat.le_of_ble_eq_true rfl) (Nat.le_of_ble_eq_true rfl) mH_rcv (by omega) (Nat.le_of_ble_eq_true rfl) rfl ?_
      refine sp_mat2 (hm _) hw (by omega) ?_
      repeat (first | refine gi_con ?_ | refine gi_bip (Nat.le_of_ble_eq_true rfl) ?_ | refine gi_sip (Nat.le_of_ble_eq_true rfl) ?_ | refine gi_ldc ?_ | refine gi_add ?_ | refine gi_inc rfl ?_ | refine gi_sub (by omega) ?_ | refine gi_mul ?_ | refine go_nx rfl ?_)
      first | refine gb_lt (by omega) (by omega) (fun c3 => ?_) (fun c3 => ?_) | refine gb_ge (by omega) (by omega) (fun c3 => ?_) (fun c3 => ?_) | refine gb_gt (by omega) (by omega) (fun c3 => ?_) (fun c3 => ?_) | refine gb_le (by omega) (by omega) (fun c3 => ?_) (fun c3 => ?_) | refine gb_eq (by omega) (by omega) (fun c3 => ?_) (fun c3 => ?_) | refine gb_ne (by omega) (by omega) (fun c3 => ?_) (fun c3 => ?_)
      · exact two (by rw [c2, decide_eq_false c3]; rfl)
      repeat (first | refine gi_con ?_ | refine gi_bip (Nat.le_of_ble_eq_true rfl) ?_ | refine gi_sip (Nat.le_of_ble_eq_true rfl) ?_ | refine gi_ldc ?_ | refine gi_add ?_ | refine gi_inc rfl ?_ | refine gi_sub (by omega) ?_ | refine gi_mul ?_ | refine go_nx rfl ?_)
      refine go_step ?_
      refine g_callV (by decide) (by decide) (Nat.le_of_ble_eq_true rfl) (Nat.le_of_ble_eq_true rfl) mH_rcv (by omega) (Nat.le_of_ble_eq_true rfl) rfl ?_
      rw [show b + (e + 2 + i) - 1 = b + (e + 2 + i - 1) by omega]
      refine sp_mat2 (hm _) hw (by omega) ?_
      repeat (first | refine gi_con ?_ | refine gi_bip (Nat.le_of_ble_eq_true rfl) ?_ | refine gi_sip (Nat.le_of_ble_eq_true rfl) ?_ | refine gi_ldc ?_ | refine gi_add ?_ | refine gi_inc rfl ?_ | refine gi_sub (by omega) ?_ | refine gi_mul ?_ | refine go_nx rfl ?_)
      first | refine gb_lt (by omega) (by omega) (fun c4 => ?_) (fun c4 => ?_) | refine gb_ge (by omega) (by omega) (fun c4 => ?_) (fun c4 => ?_) | refine gb_gt (by omega) (by omega) (fun c4 => ?_) (fun c4 => ?_) | refine gb_le (by omega) (by omega) (fun c4 => ?_) (fun c4 => ?_) | refine gb_eq (by omega) (by omega) (fun c4 => ?_) (fun c4 => ?_) | refine gb_ne (by omega) (by omega) (fun c4 => ?_) (fun c4 => ?_)
      · exact three (by rw [decide_eq_true c3, decide_eq_true c4]; simp)
      · refine go_jp rfl ?_
        exact two (by rw [c2, decide_eq_false c4]; simp)
  repeat (first | refine gi_con ?_ | refine gi_bip (Nat.le_of_ble_eq_true rfl) ?_ | refine gi_sip (Nat.le_of_ble_eq_true rfl) ?_ | refine gi_ldc ?_ | refine gi_add ?_ | refine gi_inc rfl ?_ | refine gi_sub (by omega) ?_ | refine gi_mul ?_ | refine go_nx rfl ?_)
  refine go_step ?_
  refine g_callV (by decide) (by decide) (Nat.le_of_ble_eq_true rfl) (Nat.le_of_ble_eq_true rfl) mH_rcv (by omega) (Nat.le_of_ble_eq_true rfl) rfl ?_
  refine sp_mne (hm _) hw hnl ?_
  repeat (first | refine gi_con ?_ | refine gi_bip (Nat.le_of_ble_eq_true rfl) ?_ | refine gi_sip (Nat.le_of_ble_eq_true rfl) ?_ | refine gi_ldc ?_ | refine gi_add ?_ | refine gi_inc rfl ?_ | refine gi_sub (by omega) ?_ | refine gi_mul ?_ | refine go_nx rfl ?_)
  refine go_step ?_
  refine g_callV (by decide) (by decide) (Nat.le_of_ble_eq_true rfl) (Nat.le_of_ble_eq_true rfl) mH_rcv (by omega) (Nat.le_of_ble_eq_true rfl) rfl ?_
  rw [show b + q_ne B e - (b + e) - 1 = q_ne B e - (e + 1) by omega]
  refine sp_mpath (B := fun j => B (e + 1 + j)) (by omega) (hm _) (fun j hj => ?_) (by omega) (fun j => hw.2.2.2.1 _) ?_
  · rw [Nat.add_assoc b e 1, Nat.add_assoc, hw.1 _ (by omega)]
  repeat (first | refine gi_con ?_ | refine gi_bip (Nat.le_of_ble_eq_true rfl) ?_ | refine gi_sip (Nat.le_of_ble_eq_true rfl) ?_ | refine gi_ldc ?_ | refine gi_add ?_ | refine gi_inc rfl ?_ | refine gi_sub (by omega) ?_ | refine gi_mul ?_ | refine go_nx rfl ?_)
  refine go_jp rfl ?_
  rw [show b + e + 2 = b + (e + 2 + 0) by omega]
  exact loop (q_ne B e - (e + 2)) 0 _ (by omega) (q_gp_is h36 (q_u8_nm hu hne.1)).symm
end M
