/-- every $and has a row of documents -/
def q_ffr (B : Nat → Nat) : Nat → Nat → Prop
  | 0, _ => False
  | k + 1, v => ∀ e ∈ q_box_els B v, q_word B e = 2 → B e = 4 ∧ ∀ i ∈ q_box_els B (q_val B e), B i = 3 ∧ q_ffr B k (q_val B i)
section M
variable {E : mmE} {h : mmH} {o : Nat} {ad : Nat → Nat} {R B P : Nat → Nat} {n m fr : Nat}
theorem sp_mcol (hD : mD o ad) (hR : ∀ j, R j < 256) (hw : mW R 0 n B) (hP : ∀ j, j < m → R (fr + j) = P j) (hPb : ∀ j, P j < 256) (hfr : fr + m ≤ 22100) (hmm : m ≤ 2000) : ∀ (k d v stop lev : Nat) (I : Nat → Int32) (C : Nat → Nat → Int32) (K : List (Nat × Nat)) (Q : Option Value → mmH → Prop), k + 10 ≤ d → q_box (q_u8 B) B lev v stop false = true → stop ≤ n → q_ffr B k v → (∀ j, j < 22100 → C 1 j = sb_b (R j)) → mK I C K → K.length + (q_col B P m k v).length < 110 → (∀ I' C', mK I' C' (K ++ q_col B P m k v) → mFk I I' C C' → Q none (mH h o ad I' C')) → mm_Go E d 144 (mm_blk 144 0) [.ref o, .int (nI v), .int (nI fr), .int (nI m), mm_un, mm_un, mm_un] [] (mH h o ad I C) Q := by
  have hrn := hw.2.2.1
  have hm : ∀ (I : Nat → Int32) (C : Nat → Nat → Int32), (∀ j, j < 22100 → C 1 j = sb_b (R j)) → mSt (mH h o ad I C) o (ad 1) R := fun I C hC => mH_st hD hC hR
  have hC1 : ∀ {I I' : Nat → Int32} {C C' : Nat → Nat → Int32}, mFk I I' C C' → (∀ j, j < 22100 → C 1 j = sb_b (R j)) → ∀ j, j < 22100 → C' 1 j = sb_b (R j) := fun hf hC j hj => by rw [hf.2 1 (by decide) (by decide)]; exact hC j hj
  intro k
  induction k with
  | zero => intro d v stop lev I C K Q hd hb hst hff; exact hff.elim
  | succ k ih =>
    intro d v stop lev I C K Q hd hb hst hff hC hK hcap hq
    have hlev : lev = lev - 1 + 1 := by have := q_box_pos hb; omega
    rw [hlev] at hb
    obtain ⟨g1, g2, g3, g4⟩ := q_box_at hb
    have hlastn : q_last B v < n := by unfold q_last; omega
    have loop : ∀ (f e idx : Nat) (I1 : Nat → Int32) (C1 : Nat → Nat → Int32) (K1 : List (Nat × Nat)) (x5 x6 : Value), q_last B v < f + e → q_at (q_u8 B) (lev - 1) B false (q_last B v) e idx → (∀ x ∈ q_els B (q_last B v) f e, q_word B x = 2 → B x = 4 ∧ ∀ i ∈ q_box_els B (q_val B x), B i = 3 ∧ q_ffr B k (q_val B i)) → mK I1 C1 K1 → mFk I I1 C C1 → K1.length + ((q_els B (q_last B v) f e).flatMap (q_colE B P m (q_col B P m k))).length < 110 → (∀ I' C', mK I' C' (K1 ++ (q_els B (q_last B v) f e).flatMap (q_colE B P m (q_col B P m k))) → mFk I I' C C' → Q none (mH h o ad I' C')) → mm_Go E d 144 (mm_blk 144 1) [.ref o, .int (nI v), .int (nI fr), .int (nI m), .int (nI e), x5, x6] [] (mH h o ad I1 C1) Q := by
      intro f
      induction f with
      | zero =>
        intro e idx I1 C1 K1 x5 x6 hf hat
        have := q_at_le hat
        omega
      | succ f ihf =>
        intro e idx I1 C1 K1 x5 x6 hf hat hels hK1 hF1 hcap hq
        have hel := q_at_le hat
        unfold q_els at hels hcap hq
        repeat (first | refine gi_con ?_ | refine gi_bip (Nat.le_of_ble_eq_true rfl) ?_ | refine gi_sip (Nat.le_of_ble_eq_true rfl) ?_ | refine gi_ldc ?_ | refine gi_add ?_ | refine gi_inc rfl ?_ | refine gi_sub (by omega) ?_ | refine gi_mul ?_ | refine go_nx rfl ?_)
        refine go_step ?_
        refine g_callV (by decide) (by decide) (Nat.le_of_ble_eq_true rfl) (Nat.le_of_ble_eq_true rfl) mH_rcv (by omega) (Nat.le_of_ble_eq_true rfl) rfl ?_
        refine z_last (by omega) (hm _ _ (hC1 hF1 hC)) hw (by omega) (by omega) ?_
        repeat (first | refine gi_con ?_ | refine gi_bip (Nat.le_of_ble_eq_true rfl) ?_ | refine gi_sip (Nat.le_of_ble_eq_true rfl) ?_ | refine gi_ldc ?_ | refine gi_add ?_ | refine gi_inc rfl ?_ | refine gi_sub (by omega) ?_ | refine gi_mul ?_ | refine go_nx rfl ?_)
        first | refine gb_lt (by omega) (by omega) (fun c1 => ?_) (fun c1 => ?_) | refine gb_ge (by omega) (by omega) (fun c1 => ?_) (fun c1 => ?_) | refine gb_gt (by omega) (by omega) (fun c1 => ?_) (fun c1 => ?_) | refine gb_le (by omega) (by omega) (fun c1 => ?_) (fun c1 => ?_) | refine gb_eq (by omega) (by omega) (fun c1 => ?_) (fun c1 => ?_) | refine gb_ne (by omega) (by omega) (fun c1 => ?_) (fun c1 => ?_)
        · rw [if_neg (by omega)] at hq
          refine go_rt rfl ?_
          refine hq I1 C1 ?_ hF1
          show mK I1 C1 (K1 ++ [])
          rw [List.append_nil]
          exact hK1
        have c1' : e < q_last B v := by omega
        rw [if_pos c1'] at hels hcap hq
        rw [List.flatMap_cons, List.length_append] at hcap
        rw [List.flatMap_cons, ← List.append_assoc] at hq
        have hele := q_at_el hat c1'
        have hok := q_at_ok (n := n) hat c1' (by omega)
        have hnx : q_next B e ≤ q_last B v := q_at_le hele.2.2.2.2
        obtain ⟨i1, i2, i3⟩ := q_ok_in hw.2.2 hok
        have hbx := q_at_box hele.2.1
        have seven : ∀ (I2 : Nat → Int32) (C2 : Nat → Nat → Int32) (x6 : Value), mK I2 C2 (K1 ++ q_colE B P m (q_col B P m k) e) → mFk I I2 C C2 → mm_Go E d 144 (mm_blk 144 7) [.ref o, .int (nI v), .int (nI fr), .int (nI m), .int (nI e), .int (nI (q_val B e)), x6] [] (mH h o ad I2 C2) Q := by
          intro I2 C2 x6 hK2 hF2
          repeat (first | refine gi_con ?_ | refine gi_bip (Nat.le_of_ble_eq_true rfl) ?_ | refine gi_sip (Nat.le_of_ble_eq_true rfl) ?_ | refine gi_ldc ?_ | refine gi_add ?_ | refine gi_inc rfl ?_ | refine gi_sub (by omega) ?_ | refine gi_mul ?_ | refine go_nx rfl ?_)
          refine go_step ?_
          refine g_callV (by decide) (by decide) (Nat.le_of_ble_eq_true rfl) (Nat.le_of_ble_eq_true rfl) mH_rcv (by omega) (Nat.le_of_ble_eq_true rfl) rfl ?_
          refine z_next (by omega) (hm _ _ (hC1 hF2 hC)) hw hok ?_
          repeat (first | refine gi_con ?_ | refine gi_bip (Nat.le_of_ble_eq_true rfl) ?_ | refine gi_sip (Nat.le_of_ble_eq_true rfl) ?_ | refine gi_ldc ?_ | refine gi_add ?_ | refine gi_inc rfl ?_ | refine gi_sub (by omega) ?_ | refine gi_mul ?_ | refine go_nx rfl ?_)
          refine go_jp rfl ?_
          exact ihf (q_next B e) (idx + 1) I2 C2 _ _ _ (by omega) hele.2.2.2.2 (fun x hx => hels x (List.mem_cons_of_mem _ hx)) hK2 hF2 (by rw [List.length_append]; omega) hq
        unfold q_colE at hcap seven
        repeat (first | refine gi_con ?_ | refine gi_bip (Nat.le_of_ble_eq_true rfl) ?_ | refine gi_sip (Nat.le_of_ble_eq_true rfl) ?_ | refine gi_ldc ?_ | refine gi_add ?_ | refine gi_inc rfl ?_ | refine gi_sub (by omega) ?_ | refine gi_mul ?_ | refine go_nx rfl ?_)
        refine go_step ?_
        refine g_callV (by decide) (by decide) (Nat.le_of_ble_eq_true rfl) (Nat.le_of_ble_eq_true rfl) mH_rcv (by omega) (Nat.le_of_ble_eq_true rfl) rfl ?_
        refine z_val (by omega) (hm _ _ (hC1 hF1 hC)) hw hok.2.1 ?_
        repeat (first | refine gi_con ?_ | refine gi_bip (Nat.le_of_ble_eq_true rfl) ?_ | refine gi_sip (Nat.le_of_ble_eq_true rfl) ?_ | refine gi_ldc ?_ | refine gi_add ?_ | refine gi_inc rfl ?_ | refine gi_sub (by omega) ?_ | refine gi_mul ?_ | refine go_nx rfl ?_)
        refine go_step ?_
        refine g_callV (by decide) (by decide) (Nat.le_of_ble_eq_true rfl) (Nat.le_of_ble_eq_true rfl) mH_rcv (by omega) (Nat.le_of_ble_eq_true rfl) rfl ?_
        refine z_isn 0 (by omega) (by omega) (hm _ _ (hC1 hF1 hC)) hw hok.2.1 (by omega) rfl ?_
        repeat (first | refine gi_con ?_ | refine gi_bip (Nat.le_of_ble_eq_true rfl) ?_ | refine gi_sip (Nat.le_of_ble_eq_true rfl) ?_ | refine gi_ldc ?_ | refine gi_add ?_ | refine gi_inc rfl ?_ | refine gi_sub (by omega) ?_ | refine gi_mul ?_ | refine go_nx rfl ?_)
        first | refine gt_eq (fun c2 => ?_) (fun c2 => ?_) | refine gt_ne (fun c2 => ?_) (fun c2 => ?_)
        · have hnw : ¬ q_word B e = 2 := of_decide_eq_false c2
          rw [if_neg hnw] at hcap seven
          repeat (first | refine gi_con ?_ | refine gi_bip (Nat.le_of_ble_eq_true rfl) ?_ | refine gi_sip (Nat.le_of_ble_eq_true rfl) ?_ | refine gi_ldc ?_ | refine gi_add ?_ | refine gi_inc rfl ?_ | refine gi_sub (by omega) ?_ | refine gi_mul ?_ | refine go_nx rfl ?_)
          refine go_step ?_
          refine g_callV (by decide) (by decide) (Nat.le_of_ble_eq_true rfl) (Nat.le_of_ble_eq_true rfl) mH_rcv (by omega) (Nat.le_of_ble_eq_true rfl) rfl ?_
          refine sp_mpn (by omega) (hm _ _ (hC1 hF1 hC)) hw hok hP hPb hfr hmm ?_
          repeat (first | refine gi_con ?_ | refine gi_bip (Nat.le_of_ble_eq_true rfl) ?_ | refine gi_sip (Nat.le_of_ble_eq_true rfl) ?_ | refine gi_ldc ?_ | refine gi_add ?_ | refine gi_inc rfl ?_ | refine gi_sub (by omega) ?_ | refine gi_mul ?_ | refine go_nx rfl ?_)
          first | refine gt_eq (fun c3 => ?_) (fun c3 => ?_) | refine gt_ne (fun c3 => ?_) (fun c3 => ?_)
          · rw [c3, if_neg (by decide), List.append_nil] at seven
            exact seven I1 C1 _ hK1 hF1
          rw [if_pos c3] at hcap seven
          have six0 : q_cond B e = false → ∀ (I2 : Nat → Int32) (C2 : Nat → Nat → Int32), mK I2 C2 (K1 ++ q_add B 1 e) → mFk I I2 C C2 → mm_Go E d 144 (mm_blk 144 5) [.ref o, .int (nI v), .int (nI fr), .int (nI m), .int (nI e), .int (nI (q_val B e)), x6] [] (mH h o ad I2 C2) Q := by
            intro hcd I2 C2 hK2 hF2
            rw [hcd, if_neg (by decide)] at seven
            repeat (first | refine gi_con ?_ | refine gi_bip (Nat.le_of_ble_eq_true rfl) ?_ | refine gi_sip (Nat.le_of_ble_eq_true rfl) ?_ | refine gi_ldc ?_ | refine gi_add ?_ | refine gi_inc rfl ?_ | refine gi_sub (by omega) ?_ | refine gi_mul ?_ | refine go_nx rfl ?_)
            refine go_jp rfl ?_
            repeat (first | refine gi_con ?_ | refine gi_bip (Nat.le_of_ble_eq_true rfl) ?_ | refine gi_sip (Nat.le_of_ble_eq_true rfl) ?_ | refine gi_ldc ?_ | refine gi_add ?_ | refine gi_inc rfl ?_ | refine gi_sub (by omega) ?_ | refine gi_mul ?_ | refine go_nx rfl ?_)
            refine go_step ?_
            refine g_callV (by decide) (by decide) (Nat.le_of_ble_eq_true rfl) (Nat.le_of_ble_eq_true rfl) mH_rcv (by omega) (Nat.le_of_ble_eq_true rfl) rfl ?_
            refine z_cond (by omega) (hm _ _ (hC1 hF2 hC)) hw hok ?_
            rw [hcd]
            repeat (first | refine gi_con ?_ | refine gi_bip (Nat.le_of_ble_eq_true rfl) ?_ | refine gi_sip (Nat.le_of_ble_eq_true rfl) ?_ | refine gi_ldc ?_ | refine gi_add ?_ | refine gi_inc rfl ?_ | refine gi_sub (by omega) ?_ | refine gi_mul ?_ | refine go_nx rfl ?_)
            refine gt_eq (fun _ => ?_) (fun c => by cases c)
            exact seven I2 C2 _ hK2 hF2
          repeat (first | refine gi_con ?_ | refine gi_bip (Nat.le_of_ble_eq_true rfl) ?_ | refine gi_sip (Nat.le_of_ble_eq_true rfl) ?_ | refine gi_ldc ?_ | refine gi_add ?_ | refine gi_inc rfl ?_ | refine gi_sub (by omega) ?_ | refine gi_mul ?_ | refine go_nx rfl ?_)
          refine go_step ?_
          refine g_callV (by decide) (by decide) (Nat.le_of_ble_eq_true rfl) (Nat.le_of_ble_eq_true rfl) mH_rcv (by omega) (Nat.le_of_ble_eq_true rfl) rfl ?_
          refine z_cond (by omega) (hm _ _ (hC1 hF1 hC)) hw hok ?_
          repeat (first | refine gi_con ?_ | refine gi_bip (Nat.le_of_ble_eq_true rfl) ?_ | refine gi_sip (Nat.le_of_ble_eq_true rfl) ?_ | refine gi_ldc ?_ | refine gi_add ?_ | refine gi_inc rfl ?_ | refine gi_sub (by omega) ?_ | refine gi_mul ?_ | refine go_nx rfl ?_)
          first | refine gt_eq (fun c4 => ?_) (fun c4 => ?_) | refine gt_ne (fun c4 => ?_) (fun c4 => ?_)
          · rw [if_pos c4] at hcap seven
            have hk3 : B e = 3 := by
              unfold q_cond at c4
              simp only [Bool.and_eq_true, decide_eq_true_eq] at c4
              exact c4.1
            have hb3 := hbx.1 hk3
            have hl3 : lev - 1 = lev - 1 - 1 + 1 := by have := q_box_pos hb3; omega
            rw [hl3] at hb3
            obtain ⟨y1, y2, y3, y4⟩ := q_box_at hb3
            have hl3n : q_last B (q_val B e) < n := by unfold q_last; omega
            have cloop : ∀ (g i idx : Nat) (I2 : Nat → Int32) (C2 : Nat → Nat → Int32) (K2 : List (Nat × Nat)), q_last B (q_val B e) < g + i → q_at (q_u8 B) (lev - 1 - 1) B false (q_last B (q_val B e)) i idx → mK I2 C2 K2 → mFk I I2 C C2 → K2.length + ((q_els B (q_last B (q_val B e)) g i).flatMap (fun c => q_add B (q_nof (q_word B c)) c)).length < 110 → K2 ++ (q_els B (q_last B (q_val B e)) g i).flatMap (fun c => q_add B (q_nof (q_word B c)) c) = K1 ++ (q_box_els B (q_val B e)).flatMap (fun c => q_add B (q_nof (q_word B c)) c) → mm_Go E d 144 (mm_blk 144 6) [.ref o, .int (nI v), .int (nI fr), .int (nI m), .int (nI e), .int (nI (q_val B e)), .int (nI i)] [] (mH h o ad I2 C2) Q := by
              intro g
              induction g with
              | zero =>
                intro i idx I2 C2 K2 hg hat2
                have := q_at_le hat2
                omega
              | succ g ihg =>
                intro i idx I2 C2 K2 hg hat2 hK2 hF2 hcap2 hKK
                have hil := q_at_le hat2
                unfold q_els at hcap2 hKK
                repeat (first | refine gi_con ?_ | refine gi_bip (Nat.le_of_ble_eq_true rfl) ?_ | refine gi_sip (Nat.le_of_ble_eq_true rfl) ?_ | refine gi_ldc ?_ | refine gi_add ?_ | refine gi_inc rfl ?_ | refine gi_sub (by omega) ?_ | refine gi_mul ?_ | refine go_nx rfl ?_)
                refine go_step ?_
                refine g_callV (by decide) (by decide) (Nat.le_of_ble_eq_true rfl) (Nat.le_of_ble_eq_true rfl) mH_rcv (by omega) (Nat.le_of_ble_eq_true rfl) rfl ?_
                refine z_cond (by omega) (hm _ _ (hC1 hF2 hC)) hw hok ?_
                rw [c4]
                repeat (first | refine gi_con ?_ | refine gi_bip (Nat.le_of_ble_eq_true rfl) ?_ | refine gi_sip (Nat.le_of_ble_eq_true rfl) ?_ | refine gi_ldc ?_ | refine gi_add ?_ | refine gi_inc rfl ?_ | refine gi_sub (by omega) ?_ | refine gi_mul ?_ | refine go_nx rfl ?_)
                refine gt_eq (fun c => by cases c) (fun _ => ?_)
                repeat (first | refine gi_con ?_ | refine gi_bip (Nat.le_of_ble_eq_true rfl) ?_ | refine gi_sip (Nat.le_of_ble_eq_true rfl) ?_ | refine gi_ldc ?_ | refine gi_add ?_ | refine gi_inc rfl ?_ | refine gi_sub (by omega) ?_ | refine gi_mul ?_ | refine go_nx rfl ?_)
                refine go_step ?_
                refine g_callV (by decide) (by decide) (Nat.le_of_ble_eq_true rfl) (Nat.le_of_ble_eq_true rfl) mH_rcv (by omega) (Nat.le_of_ble_eq_true rfl) rfl ?_
                refine z_last (by omega) (hm _ _ (hC1 hF2 hC)) hw (by omega) (by omega) ?_
                repeat (first | refine gi_con ?_ | refine gi_bip (Nat.le_of_ble_eq_true rfl) ?_ | refine gi_sip (Nat.le_of_ble_eq_true rfl) ?_ | refine gi_ldc ?_ | refine gi_add ?_ | refine gi_inc rfl ?_ | refine gi_sub (by omega) ?_ | refine gi_mul ?_ | refine go_nx rfl ?_)
                first | refine gb_lt (by omega) (by omega) (fun c5 => ?_) (fun c5 => ?_) | refine gb_ge (by omega) (by omega) (fun c5 => ?_) (fun c5 => ?_) | refine gb_gt (by omega) (by omega) (fun c5 => ?_) (fun c5 => ?_) | refine gb_le (by omega) (by omega) (fun c5 => ?_) (fun c5 => ?_) | refine gb_eq (by omega) (by omega) (fun c5 => ?_) (fun c5 => ?_) | refine gb_ne (by omega) (by omega) (fun c5 => ?_) (fun c5 => ?_)
                · rw [if_neg (show ¬ i < q_last B (q_val B e) by omega)] at hKK
                  have hKK : K2 ++ [] = _ := hKK
                  rw [List.append_nil] at hKK
                  exact seven I2 C2 _ (by rw [← hKK]; exact hK2) hF2
                have c5' : i < q_last B (q_val B e) := by omega
                rw [if_pos c5'] at hcap2 hKK
                rw [List.flatMap_cons, List.length_append] at hcap2
                rw [List.flatMap_cons, ← List.append_assoc] at hKK
                have hel2 := q_at_el hat2 c5'
                have hok2 := q_at_ok (n := n) hat2 c5' (by omega)
                have hnx2 : q_next B i ≤ q_last B (q_val B e) := q_at_le hel2.2.2.2.2
                obtain ⟨s1, s2, s3⟩ := q_ok_in hw.2.2 hok2
                have hn12 := (q_nof_iff (q_word B i)).2.2.2.2.2.2
                repeat (first | refine gi_con ?_ | refine gi_bip (Nat.le_of_ble_eq_true rfl) ?_ | refine gi_sip (Nat.le_of_ble_eq_true rfl) ?_ | refine gi_ldc ?_ | refine gi_add ?_ | refine gi_inc rfl ?_ | refine gi_sub (by omega) ?_ | refine gi_mul ?_ | refine go_nx rfl ?_)
                refine go_step ?_
                refine g_callV (by decide) (by decide) (Nat.le_of_ble_eq_true rfl) (Nat.le_of_ble_eq_true rfl) mH_rcv (by omega) (Nat.le_of_ble_eq_true rfl) rfl ?_
                refine z_nof (by omega) (hm _ _ (hC1 hF2 hC)) hw hok2.2.1 (by omega) ?_
                repeat (first | refine gi_con ?_ | refine gi_bip (Nat.le_of_ble_eq_true rfl) ?_ | refine gi_sip (Nat.le_of_ble_eq_true rfl) ?_ | refine gi_ldc ?_ | refine gi_add ?_ | refine gi_inc rfl ?_ | refine gi_sub (by omega) ?_ | refine gi_mul ?_ | refine go_nx rfl ?_)
                refine go_step ?_
                refine g_callV (by decide) (by decide) (Nat.le_of_ble_eq_true rfl) (Nat.le_of_ble_eq_true rfl) mH_rcv (by omega) (Nat.le_of_ble_eq_true rfl) rfl ?_
                refine sp_madd (lev := lev - 1 - 1) (last := q_last B (q_val B e)) (by omega) hD (hC1 hF2 hC) hR hw hok2 (by omega) (q_at_box hel2.2.1).1 hn12 hK2 (by omega) (fun I3 C3 hK3 hF3 => ?_)
                have hF23 := mFk_t hF2 hF3
                repeat (first | refine gi_con ?_ | refine gi_bip (Nat.le_of_ble_eq_true rfl) ?_ | refine gi_sip (Nat.le_of_ble_eq_true rfl) ?_ | refine gi_ldc ?_ | refine gi_add ?_ | refine gi_inc rfl ?_ | refine gi_sub (by omega) ?_ | refine gi_mul ?_ | refine go_nx rfl ?_)
                refine go_step ?_
                refine g_callV (by decide) (by decide) (Nat.le_of_ble_eq_true rfl) (Nat.le_of_ble_eq_true rfl) mH_rcv (by omega) (Nat.le_of_ble_eq_true rfl) rfl ?_
                refine z_next (by omega) (hm _ _ (hC1 hF23 hC)) hw hok2 ?_
                repeat (first | refine gi_con ?_ | refine gi_bip (Nat.le_of_ble_eq_true rfl) ?_ | refine gi_sip (Nat.le_of_ble_eq_true rfl) ?_ | refine gi_ldc ?_ | refine gi_add ?_ | refine gi_inc rfl ?_ | refine gi_sub (by omega) ?_ | refine gi_mul ?_ | refine go_nx rfl ?_)
                refine go_jp rfl ?_
                exact ihg (q_next B i) (idx + 1) I3 C3 _ (by omega) hel2.2.2.2.2 hK3 hF23 (by rw [List.length_append]; omega) hKK
            repeat (first | refine gi_con ?_ | refine gi_bip (Nat.le_of_ble_eq_true rfl) ?_ | refine gi_sip (Nat.le_of_ble_eq_true rfl) ?_ | refine gi_ldc ?_ | refine gi_add ?_ | refine gi_inc rfl ?_ | refine gi_sub (by omega) ?_ | refine gi_mul ?_ | refine go_nx rfl ?_)
            refine go_jp rfl ?_
            exact cloop 2001 (q_val B e + 4) 0 I1 C1 K1 (by omega) y4 hK1 hF1 (by have hh := hcap; unfold q_box_els at hh; omega) rfl
          · rw [c4, if_neg (by decide)] at hcap
            repeat (first | refine gi_con ?_ | refine gi_bip (Nat.le_of_ble_eq_true rfl) ?_ | refine gi_sip (Nat.le_of_ble_eq_true rfl) ?_ | refine gi_ldc ?_ | refine gi_add ?_ | refine gi_inc rfl ?_ | refine gi_sub (by omega) ?_ | refine gi_mul ?_ | refine go_nx rfl ?_)
            refine go_step ?_
            refine g_callV (by decide) (by decide) (Nat.le_of_ble_eq_true rfl) (Nat.le_of_ble_eq_true rfl) mH_rcv (by omega) (Nat.le_of_ble_eq_true rfl) rfl ?_
            refine sp_madd (lev := lev - 1) (last := q_last B v) (by omega) hD (hC1 hF1 hC) hR hw hok (by omega) hbx.1 (by omega) hK1 (by omega) (fun I2 C2 hK2 hF2 => ?_)
            repeat (first | refine gi_con ?_ | refine gi_bip (Nat.le_of_ble_eq_true rfl) ?_ | refine gi_sip (Nat.le_of_ble_eq_true rfl) ?_ | refine gi_ldc ?_ | refine gi_add ?_ | refine gi_inc rfl ?_ | refine gi_sub (by omega) ?_ | refine gi_mul ?_ | refine go_nx rfl ?_)
            refine go_jp rfl ?_
            exact six0 c4 I2 C2 hK2 (mFk_t hF1 hF2)
        · have hw2 : q_word B e = 2 := of_decide_eq_true c2
          rw [if_pos hw2] at hcap seven
          obtain ⟨hk4, hit⟩ := hels e List.mem_cons_self hw2
          have hb4 := hbx.2 hk4
          have hl4 : lev - 1 = lev - 1 - 1 + 1 := by have := q_box_pos hb4; omega
          rw [hl4] at hb4
          obtain ⟨y1, y2, y3, y4⟩ := q_box_at hb4
          have hl3n : q_last B (q_val B e) < n := by unfold q_last; omega
          have iloop : ∀ (g i idx : Nat) (I2 : Nat → Int32) (C2 : Nat → Nat → Int32) (K2 : List (Nat × Nat)), q_last B (q_val B e) < g + i → q_at (q_u8 B) (lev - 1 - 1) B true (q_last B (q_val B e)) i idx → (∀ x ∈ q_els B (q_last B (q_val B e)) g i, B x = 3 ∧ q_ffr B k (q_val B x)) → mK I2 C2 K2 → mFk I I2 C C2 → K2.length + ((q_els B (q_last B (q_val B e)) g i).flatMap (fun i => q_col B P m k (q_val B i))).length < 110 → K2 ++ (q_els B (q_last B (q_val B e)) g i).flatMap (fun i => q_col B P m k (q_val B i)) = K1 ++ (q_box_els B (q_val B e)).flatMap (fun i => q_col B P m k (q_val B i)) → mm_Go E d 144 (mm_blk 144 2) [.ref o, .int (nI v), .int (nI fr), .int (nI m), .int (nI e), .int (nI (q_val B e)), .int (nI i)] [] (mH h o ad I2 C2) Q := by
            intro g
            induction g with
            | zero =>
              intro i idx I2 C2 K2 hg hat2
              have := q_at_le hat2
              omega
            | succ g ihg =>
              intro i idx I2 C2 K2 hg hat2 hit2 hK2 hF2 hcap2 hKK
              have hil := q_at_le hat2
              unfold q_els at hcap2 hKK hit2
              repeat (first | refine gi_con ?_ | refine gi_bip (Nat.le_of_ble_eq_true rfl) ?_ | refine gi_sip (Nat.le_of_ble_eq_true rfl) ?_ | refine gi_ldc ?_ | refine gi_add ?_ | refine gi_inc rfl ?_ | refine gi_sub (by omega) ?_ | refine gi_mul ?_ | refine go_nx rfl ?_)
              refine go_step ?_
              refine g_callV (by decide) (by decide) (Nat.le_of_ble_eq_true rfl) (Nat.le_of_ble_eq_true rfl) mH_rcv (by omega) (Nat.le_of_ble_eq_true rfl) rfl ?_
              refine z_last (by omega) (hm _ _ (hC1 hF2 hC)) hw (by omega) (by omega) ?_
              repeat (first | refine gi_con ?_ | refine gi_bip (Nat.le_of_ble_eq_true rfl) ?_ | refine gi_sip (Nat.le_of_ble_eq_true rfl) ?_ | refine gi_ldc ?_ | refine gi_add ?_ | refine gi_inc rfl ?_ | refine gi_sub (by omega) ?_ | refine gi_mul ?_ | refine go_nx rfl ?_)
              first | refine gb_lt (by omega) (by omega) (fun c5 => ?_) (fun c5 => ?_) | refine gb_ge (by omega) (by omega) (fun c5 => ?_) (fun c5 => ?_) | refine gb_gt (by omega) (by omega) (fun c5 => ?_) (fun c5 => ?_) | refine gb_le (by omega) (by omega) (fun c5 => ?_) (fun c5 => ?_) | refine gb_eq (by omega) (by omega) (fun c5 => ?_) (fun c5 => ?_) | refine gb_ne (by omega) (by omega) (fun c5 => ?_) (fun c5 => ?_)
              · rw [if_neg (show ¬ i < q_last B (q_val B e) by omega)] at hKK
                have hKK : K2 ++ [] = _ := hKK
                rw [List.append_nil] at hKK
                refine go_jp rfl ?_
                exact seven I2 C2 _ (by rw [← hKK]; exact hK2) hF2
              have c5' : i < q_last B (q_val B e) := by omega
              rw [if_pos c5'] at hcap2 hKK hit2
              rw [List.flatMap_cons, List.length_append] at hcap2
              rw [List.flatMap_cons, ← List.append_assoc] at hKK
              have hel2 := q_at_el hat2 c5'
              have hok2 := q_at_ok (n := n) hat2 c5' (by omega)
              have hnx2 : q_next B i ≤ q_last B (q_val B e) := q_at_le hel2.2.2.2.2
              obtain ⟨s1, s2, s3⟩ := q_ok_in hw.2.2 hok2
              obtain ⟨hi3, hif⟩ := hit2 i List.mem_cons_self
              repeat (first | refine gi_con ?_ | refine gi_bip (Nat.le_of_ble_eq_true rfl) ?_ | refine gi_sip (Nat.le_of_ble_eq_true rfl) ?_ | refine gi_ldc ?_ | refine gi_add ?_ | refine gi_inc rfl ?_ | refine gi_sub (by omega) ?_ | refine gi_mul ?_ | refine go_nx rfl ?_)
              refine go_step ?_
              refine g_callV (by decide) (by decide) (Nat.le_of_ble_eq_true rfl) (Nat.le_of_ble_eq_true rfl) mH_rcv (by omega) (Nat.le_of_ble_eq_true rfl) rfl ?_
              refine z_val (by omega) (hm _ _ (hC1 hF2 hC)) hw hok2.2.1 ?_
              repeat (first | refine gi_con ?_ | refine gi_bip (Nat.le_of_ble_eq_true rfl) ?_ | refine gi_sip (Nat.le_of_ble_eq_true rfl) ?_ | refine gi_ldc ?_ | refine gi_add ?_ | refine gi_inc rfl ?_ | refine gi_sub (by omega) ?_ | refine gi_mul ?_ | refine go_nx rfl ?_)
              refine go_step ?_
              refine g_callV (by decide) (by decide) (Nat.le_of_ble_eq_true rfl) (Nat.le_of_ble_eq_true rfl) mH_rcv (by omega) (Nat.le_of_ble_eq_true rfl) rfl ?_
              refine ih (d - 1) (q_val B i) (q_last B (q_val B e)) (lev - 1 - 1) I2 C2 K2 _ (by omega) ((q_at_box hel2.2.1).1 hi3) (by omega) hif (hC1 hF2 hC) hK2 (by omega) (fun I3 C3 hK3 hF3 => ?_)
              have hF23 := mFk_t hF2 hF3
              repeat (first | refine gi_con ?_ | refine gi_bip (Nat.le_of_ble_eq_true rfl) ?_ | refine gi_sip (Nat.le_of_ble_eq_true rfl) ?_ | refine gi_ldc ?_ | refine gi_add ?_ | refine gi_inc rfl ?_ | refine gi_sub (by omega) ?_ | refine gi_mul ?_ | refine go_nx rfl ?_)
              refine go_step ?_
              refine g_callV (by decide) (by decide) (Nat.le_of_ble_eq_true rfl) (Nat.le_of_ble_eq_true rfl) mH_rcv (by omega) (Nat.le_of_ble_eq_true rfl) rfl ?_
              refine z_next (by omega) (hm _ _ (hC1 hF23 hC)) hw hok2 ?_
              repeat (first | refine gi_con ?_ | refine gi_bip (Nat.le_of_ble_eq_true rfl) ?_ | refine gi_sip (Nat.le_of_ble_eq_true rfl) ?_ | refine gi_ldc ?_ | refine gi_add ?_ | refine gi_inc rfl ?_ | refine gi_sub (by omega) ?_ | refine gi_mul ?_ | refine go_nx rfl ?_)
              refine go_jp rfl ?_
              exact ihg (q_next B i) (idx + 1) I3 C3 _ (by omega) hel2.2.2.2.2 (fun x hx => hit2 x (List.mem_cons_of_mem _ hx)) hK3 hF23 (by rw [List.length_append]; omega) hKK
          repeat (first | refine gi_con ?_ | refine gi_bip (Nat.le_of_ble_eq_true rfl) ?_ | refine gi_sip (Nat.le_of_ble_eq_true rfl) ?_ | refine gi_ldc ?_ | refine gi_add ?_ | refine gi_inc rfl ?_ | refine gi_sub (by omega) ?_ | refine gi_mul ?_ | refine go_nx rfl ?_)
          refine go_jp rfl ?_
          exact iloop 2001 (q_val B e + 4) 0 I1 C1 K1 (by omega) y4 hit hK1 hF1 (by have hh := hcap; unfold q_box_els at hh; omega) rfl
    repeat (first | refine gi_con ?_ | refine gi_bip (Nat.le_of_ble_eq_true rfl) ?_ | refine gi_sip (Nat.le_of_ble_eq_true rfl) ?_ | refine gi_ldc ?_ | refine gi_add ?_ | refine gi_inc rfl ?_ | refine gi_sub (by omega) ?_ | refine gi_mul ?_ | refine go_nx rfl ?_)
    refine go_jp rfl ?_
    exact loop 2001 (v + 4) 0 I C K _ _ (by omega) g4 hff hK (mFk_r I C) hcap hq
end M
