section M
variable {E : mmE} {d : Nat} {h : mmH} {Q : Option Value → mmH → Prop} {o : Nat} {ad : Nat → Nat} {I : Nat → Int32} {C : Nat → Nat → Int32} {S : Nat → List qR} {R B : Nat → Nat} {n : Nat}
/-- what $elem needs of its conditions -/
def q_eok (B : Nat → Nat) (e : Nat) : Prop := (∀ x ∈ q_els B (q_last B (q_val B e)) 2001 (q_val B e + 4), q_nof (q_word B x) = 2 → B x = 4) ∧ ∀ pre rest, q_els B (q_last B (q_val B e)) 2001 (q_val B e + 4) = pre ++ rest → ∀ l, pre.foldl (q_wstep (q_ord B B 17) B) none = some l → l.length ≤ 999
theorem sp_mwe {s b c e lev : Nat} (hd : 46 ≤ d) (hD : mD o ad) (hC : ∀ j, j < 22100 → C 1 j = sb_b (R j)) (hR : ∀ j, R j < 256) (hw : mW R 0 n B) (hS : mS3 C S) (hs : s < 3) (hb : b < 3) (hc : c < 3) (hsb : s ≠ b) (hsc : s ≠ c) (hbc : b ≠ c) (he : q_me B n e lev) (hlev : lev < 17) (hk3 : B e = 3) (hok : q_eok B e)
    (hq : ∀ C' S', mS3 C' S' → S' s = (q_we (q_ord B B 17) B e).getD (S s) → mFr C C' → Q (some (.int (q_t (q_we (q_ord B B 17) B e).isSome))) (mH h o ad I C')) : mm_Go E d 149 (mm_blk 149 0) [.ref o, .int (nI s), .int (nI e), .int (nI b), .int (nI c), mm_un, mm_un, mm_un, mm_un] [] (mH h o ad I C) Q := by
  have hm : ∀ (I : Nat → Int32) (C' : Nat → Nat → Int32), mFr C C' → mSt (mH h o ad I C') o (ad 1) R := fun I C' hf => mH_st hD (fun j hj => by rw [hf 1 (by decide) (by decide)]; exact hC j hj) hR
  have hC' : ∀ (C' : Nat → Nat → Int32), mFr C C' → ∀ j, j < 22100 → C' 1 j = sb_b (R j) := fun C' hf j hj => by rw [hf 1 (by decide) (by decide)]; exact hC j hj
  have hrn := hw.2.2.1
  have hoke := q_me_ok he
  obtain ⟨b1, b2, b3, b4, b5⟩ := q_me_box he (Or.inl hk3)
  rw [decide_eq_false (show ¬ B e = 4 by omega)] at b5
  have loop2 : ∀ (l : List qR), q_we0 (q_ord B B 17) B e = some l → ∀ (m k : Nat) (acc : List qR) (come : Bool) (C1 : Nat → Nat → Int32) (S1 : Nat → List qR), m + k = l.length → l.length ≤ 999 → mS3 C1 S1 → mFr C C1 → S1 s = l → S1 c = acc → (∀ r ∈ l, q_okR B n r) → acc ++ (if come = true then l.drop k else q_addr (l.drop k)) = q_addr l → mm_Go E d 149 (mm_blk 149 8) [.ref o, .int (nI s), .int (nI e), .int (nI b), .int (nI c), .int (q_t true), .int (nI (q_val B e)), .int (q_t come), .int (nI k)] [] (mH h o ad I C1) Q := by
    intro l hl m
    have hwe : q_we (q_ord B B 17) B e = some (q_addr l) := by unfold q_we; rw [hl]; rfl
    rw [hwe] at hq
    induction m with
    | zero =>
      intro k acc come C1 S1 hmk hll hS1 hF1 hS1s hS1c hlok hacc
      rw [List.drop_of_length_le (by omega)] at hacc
      have eleven : ∀ (C2 : Nat → Nat → Int32) (S2 : Nat → List qR), mS3 C2 S2 → mFr C C2 → S2 c = q_addr l → mm_Go E d 149 (mm_blk 149 11) [.ref o, .int (nI s), .int (nI e), .int (nI b), .int (nI c), .int (q_t true), .int (nI (q_val B e)), .int (q_t come), .int (nI k)] [] (mH h o ad I C2) Q := by
        intro C2 S2 hS2 hF2 hS2c
        repeat (first | refine gi_con ?_ | refine gi_bip (Nat.le_of_ble_eq_true rfl) ?_ | refine gi_sip (Nat.le_of_ble_eq_true rfl) ?_ | refine gi_ldc ?_ | refine gi_add ?_ | refine gi_inc rfl ?_ | refine gi_sub (by omega) ?_ | refine gi_mul ?_ | refine go_nx rfl ?_)
        refine go_step ?_
        refine g_callV (by decide) (by decide) (Nat.le_of_ble_eq_true rfl) (Nat.le_of_ble_eq_true rfl) mH_rcv (by omega) (Nat.le_of_ble_eq_true rfl) rfl ?_
        refine sp_mcopy hD hS2 hc hs (Ne.symm hsc) (fun C3 hS3 hF3 => ?_)
        repeat (first | refine gi_con ?_ | refine gi_bip (Nat.le_of_ble_eq_true rfl) ?_ | refine gi_sip (Nat.le_of_ble_eq_true rfl) ?_ | refine gi_ldc ?_ | refine gi_add ?_ | refine gi_inc rfl ?_ | refine gi_sub (by omega) ?_ | refine gi_mul ?_ | refine go_nx rfl ?_)
        refine go_rt rfl ?_
        exact hq C3 _ hS3 (by rw [uf_at, hS2c]; rfl) (mFr_t hF2 hF3)
      repeat (first | refine gi_con ?_ | refine gi_bip (Nat.le_of_ble_eq_true rfl) ?_ | refine gi_sip (Nat.le_of_ble_eq_true rfl) ?_ | refine gi_ldc ?_ | refine gi_add ?_ | refine gi_inc rfl ?_ | refine gi_sub (by omega) ?_ | refine gi_mul ?_ | refine go_nx rfl ?_)
      refine gm_get (.ref (ad 14)) rfl rfl ?_
      repeat (first | refine gi_con ?_ | refine gi_bip (Nat.le_of_ble_eq_true rfl) ?_ | refine gi_sip (Nat.le_of_ble_eq_true rfl) ?_ | refine gi_ldc ?_ | refine gi_add ?_ | refine gi_inc rfl ?_ | refine gi_sub (by omega) ?_ | refine gi_mul ?_ | refine go_nx rfl ?_)
      refine gm_ild hD (by decide) rfl (show s < 3 from hs) (by decide) ?_
      rw [(hS1 s hs).2.1, hS1s]
      repeat (first | refine gi_con ?_ | refine gi_bip (Nat.le_of_ble_eq_true rfl) ?_ | refine gi_sip (Nat.le_of_ble_eq_true rfl) ?_ | refine gi_ldc ?_ | refine gi_add ?_ | refine gi_inc rfl ?_ | refine gi_sub (by omega) ?_ | refine gi_mul ?_ | refine go_nx rfl ?_)
      first | refine gb_lt (by omega) (by omega) (fun c1 => ?_) (fun c1 => ?_) | refine gb_ge (by omega) (by omega) (fun c1 => ?_) (fun c1 => ?_) | refine gb_gt (by omega) (by omega) (fun c1 => ?_) (fun c1 => ?_) | refine gb_le (by omega) (by omega) (fun c1 => ?_) (fun c1 => ?_) | refine gb_eq (by omega) (by omega) (fun c1 => ?_) (fun c1 => ?_) | refine gb_ne (by omega) (by omega) (fun c1 => ?_) (fun c1 => ?_)
      · repeat (first | refine gi_con ?_ | refine gi_bip (Nat.le_of_ble_eq_true rfl) ?_ | refine gi_sip (Nat.le_of_ble_eq_true rfl) ?_ | refine gi_ldc ?_ | refine gi_add ?_ | refine gi_inc rfl ?_ | refine gi_sub (by omega) ?_ | refine gi_mul ?_ | refine go_nx rfl ?_)
        first | refine gt_eq (fun c2 => ?_) (fun c2 => ?_) | refine gt_ne (fun c2 => ?_) (fun c2 => ?_)
        · rw [c2, if_pos rfl, List.append_nil] at hacc
          exact eleven C1 S1 hS1 hF1 (by rw [hS1c]; exact hacc)
        · rw [c2, if_neg (by decide)] at hacc
          have hlen : acc.length = l.length := by
            have := congrArg List.length hacc
            rw [List.length_append, q_addr_len, q_addr_len] at this
            simp at this
            omega
          repeat (first | refine gi_con ?_ | refine gi_bip (Nat.le_of_ble_eq_true rfl) ?_ | refine gi_sip (Nat.le_of_ble_eq_true rfl) ?_ | refine gi_ldc ?_ | refine gi_add ?_ | refine gi_inc rfl ?_ | refine gi_sub (by omega) ?_ | refine gi_mul ?_ | refine go_nx rfl ?_)
          refine go_step ?_
          refine g_callV (by decide) (by decide) (Nat.le_of_ble_eq_true rfl) (Nat.le_of_ble_eq_true rfl) mH_rcv (by omega) (Nat.le_of_ble_eq_true rfl) rfl ?_
          refine sp_mwriteE (lo := (5, 0, 0, 0)) (hi := (5, 2, 0, 0)) hD hS1 hc (by rw [hS1c]; omega) (fun C2 hS2 hF2 => ?_)
          repeat (first | refine gi_con ?_ | refine gi_bip (Nat.le_of_ble_eq_true rfl) ?_ | refine gi_sip (Nat.le_of_ble_eq_true rfl) ?_ | refine gi_ldc ?_ | refine gi_add ?_ | refine gi_inc rfl ?_ | refine gi_sub (by omega) ?_ | refine gi_mul ?_ | refine go_nx rfl ?_)
          refine go_jp rfl ?_
          refine eleven C2 _ hS2 (mFr_t hF1 hF2) ?_
          rw [uf_at, hS1c]
          exact hacc
      · omega
    | succ m ih =>
      intro k acc come C1 S1 hmk hll hS1 hF1 hS1s hS1c hlok hacc
      have hkl : k < l.length := by omega
      generalize hr : l.getD k q_r0 = r
      have edrop : l.drop k = r :: l.drop (k + 1) := by
        rw [List.drop_eq_getElem_cons hkl, ← hr, List.getD_eq_getElem?_getD, List.getElem?_eq_getElem hkl]
        rfl
      rw [edrop] at hacc
      have hlenA : acc.length < 1000 := by
        have := congrArg List.length hacc
        rw [List.length_append, q_addr_len] at this
        split at this
        · rw [List.length_cons] at this
          omega
        · rw [q_addr_len, List.length_cons] at this
          omega
      have nine : ∀ (come2 : Bool) (acc2 : List qR) (C2 : Nat → Nat → Int32) (S2 : Nat → List qR), mS3 C2 S2 → mFr C C2 → S2 s = l → S2 c = acc2 → (acc2 ++ [r]) ++ (if come2 = true then l.drop (k + 1) else q_addr (l.drop (k + 1))) = q_addr l → mm_Go E d 149 (mm_blk 149 9) [.ref o, .int (nI s), .int (nI e), .int (nI b), .int (nI c), .int (q_t true), .int (nI (q_val B e)), .int (q_t come2), .int (nI k)] [] (mH h o ad I C2) Q := by
        intro come2 acc2 C2 S2 hS2 hF2 hS2s hS2c hacc2
        have hl2 : acc2.length < 1000 := by
          have := congrArg List.length hacc2
          rw [List.length_append, List.length_append, q_addr_len] at this
          simp at this
          omega
        have hkl2 : k < (S2 s).length := by rw [hS2s]; exact hkl
        have hr2 : (S2 s).getD k q_r0 = r := by rw [hS2s]; exact hr
        repeat (first | refine gi_con ?_ | refine gi_bip (Nat.le_of_ble_eq_true rfl) ?_ | refine gi_sip (Nat.le_of_ble_eq_true rfl) ?_ | refine gi_ldc ?_ | refine gi_add ?_ | refine gi_inc rfl ?_ | refine gi_sub (by omega) ?_ | refine gi_mul ?_ | refine go_nx rfl ?_)
        refine go_step ?_
        refine g_callV (by decide) (by decide) (Nat.le_of_ble_eq_true rfl) (Nat.le_of_ble_eq_true rfl) mH_rcv (by omega) (Nat.le_of_ble_eq_true rfl) rfl ?_
        refine sp_mfl 0 hD hS2 hs hkl2 hr2 (by omega) ?_
        repeat (first | refine gi_con ?_ | refine gi_bip (Nat.le_of_ble_eq_true rfl) ?_ | refine gi_sip (Nat.le_of_ble_eq_true rfl) ?_ | refine gi_ldc ?_ | refine gi_add ?_ | refine gi_inc rfl ?_ | refine gi_sub (by omega) ?_ | refine gi_mul ?_ | refine go_nx rfl ?_)
        refine go_step ?_
        refine g_callV (by decide) (by decide) (Nat.le_of_ble_eq_true rfl) (Nat.le_of_ble_eq_true rfl) mH_rcv (by omega) (Nat.le_of_ble_eq_true rfl) rfl ?_
        refine sp_mfl 1 hD hS2 hs hkl2 hr2 (by omega) ?_
        repeat (first | refine gi_con ?_ | refine gi_bip (Nat.le_of_ble_eq_true rfl) ?_ | refine gi_sip (Nat.le_of_ble_eq_true rfl) ?_ | refine gi_ldc ?_ | refine gi_add ?_ | refine gi_inc rfl ?_ | refine gi_sub (by omega) ?_ | refine gi_mul ?_ | refine go_nx rfl ?_)
        refine go_step ?_
        refine g_callV (by decide) (by decide) (Nat.le_of_ble_eq_true rfl) (Nat.le_of_ble_eq_true rfl) mH_rcv (by omega) (Nat.le_of_ble_eq_true rfl) rfl ?_
        refine sp_mfl 2 hD hS2 hs hkl2 hr2 (by omega) ?_
        repeat (first | refine gi_con ?_ | refine gi_bip (Nat.le_of_ble_eq_true rfl) ?_ | refine gi_sip (Nat.le_of_ble_eq_true rfl) ?_ | refine gi_ldc ?_ | refine gi_add ?_ | refine gi_inc rfl ?_ | refine gi_sub (by omega) ?_ | refine gi_mul ?_ | refine go_nx rfl ?_)
        refine go_step ?_
        refine g_callV (by decide) (by decide) (Nat.le_of_ble_eq_true rfl) (Nat.le_of_ble_eq_true rfl) mH_rcv (by omega) (Nat.le_of_ble_eq_true rfl) rfl ?_
        refine sp_mfl 3 hD hS2 hs hkl2 hr2 (by omega) ?_
        repeat (first | refine gi_con ?_ | refine gi_bip (Nat.le_of_ble_eq_true rfl) ?_ | refine gi_sip (Nat.le_of_ble_eq_true rfl) ?_ | refine gi_ldc ?_ | refine gi_add ?_ | refine gi_inc rfl ?_ | refine gi_sub (by omega) ?_ | refine gi_mul ?_ | refine go_nx rfl ?_)
        refine go_step ?_
        refine g_callV (by decide) (by decide) (Nat.le_of_ble_eq_true rfl) (Nat.le_of_ble_eq_true rfl) mH_rcv (by omega) (Nat.le_of_ble_eq_true rfl) rfl ?_
        refine sp_mfh 4 hD hS2 hs hkl2 hr2 (by omega) ?_
        repeat (first | refine gi_con ?_ | refine gi_bip (Nat.le_of_ble_eq_true rfl) ?_ | refine gi_sip (Nat.le_of_ble_eq_true rfl) ?_ | refine gi_ldc ?_ | refine gi_add ?_ | refine gi_inc rfl ?_ | refine gi_sub (by omega) ?_ | refine gi_mul ?_ | refine go_nx rfl ?_)
        refine go_step ?_
        refine g_callV (by decide) (by decide) (Nat.le_of_ble_eq_true rfl) (Nat.le_of_ble_eq_true rfl) mH_rcv (by omega) (Nat.le_of_ble_eq_true rfl) rfl ?_
        refine sp_mfh 5 hD hS2 hs hkl2 hr2 (by omega) ?_
        repeat (first | refine gi_con ?_ | refine gi_bip (Nat.le_of_ble_eq_true rfl) ?_ | refine gi_sip (Nat.le_of_ble_eq_true rfl) ?_ | refine gi_ldc ?_ | refine gi_add ?_ | refine gi_inc rfl ?_ | refine gi_sub (by omega) ?_ | refine gi_mul ?_ | refine go_nx rfl ?_)
        refine go_step ?_
        refine g_callV (by decide) (by decide) (Nat.le_of_ble_eq_true rfl) (Nat.le_of_ble_eq_true rfl) mH_rcv (by omega) (Nat.le_of_ble_eq_true rfl) rfl ?_
        refine sp_mfh 6 hD hS2 hs hkl2 hr2 (by omega) ?_
        repeat (first | refine gi_con ?_ | refine gi_bip (Nat.le_of_ble_eq_true rfl) ?_ | refine gi_sip (Nat.le_of_ble_eq_true rfl) ?_ | refine gi_ldc ?_ | refine gi_add ?_ | refine gi_inc rfl ?_ | refine gi_sub (by omega) ?_ | refine gi_mul ?_ | refine go_nx rfl ?_)
        refine go_step ?_
        refine g_callV (by decide) (by decide) (Nat.le_of_ble_eq_true rfl) (Nat.le_of_ble_eq_true rfl) mH_rcv (by omega) (Nat.le_of_ble_eq_true rfl) rfl ?_
        refine sp_mfh 7 hD hS2 hs hkl2 hr2 (by omega) ?_
        repeat (first | refine gi_con ?_ | refine gi_bip (Nat.le_of_ble_eq_true rfl) ?_ | refine gi_sip (Nat.le_of_ble_eq_true rfl) ?_ | refine gi_ldc ?_ | refine gi_add ?_ | refine gi_inc rfl ?_ | refine gi_sub (by omega) ?_ | refine gi_mul ?_ | refine go_nx rfl ?_)
        refine go_step ?_
        refine g_callV (by decide) (by decide) (Nat.le_of_ble_eq_true rfl) (Nat.le_of_ble_eq_true rfl) mH_rcv (by omega) (Nat.le_of_ble_eq_true rfl) rfl ?_
        refine sp_mwriteE (lo := r.1) (hi := r.2) hD hS2 hc (by rw [hS2c]; exact hl2) (fun C3 hS3 hF3 => ?_)
        repeat (first | refine gi_con ?_ | refine gi_bip (Nat.le_of_ble_eq_true rfl) ?_ | refine gi_sip (Nat.le_of_ble_eq_true rfl) ?_ | refine gi_ldc ?_ | refine gi_add ?_ | refine gi_inc rfl ?_ | refine gi_sub (by omega) ?_ | refine gi_mul ?_ | refine go_nx rfl ?_)
        refine go_jp rfl ?_
        refine ih (k + 1) (acc2 ++ [r]) come2 C3 _ (by omega) hll hS3 (mFr_t hF2 hF3) (by rw [uf_ne hsc]; exact hS2s) (by rw [uf_at, hS2c]) hlok hacc2
      repeat (first | refine gi_con ?_ | refine gi_bip (Nat.le_of_ble_eq_true rfl) ?_ | refine gi_sip (Nat.le_of_ble_eq_true rfl) ?_ | refine gi_ldc ?_ | refine gi_add ?_ | refine gi_inc rfl ?_ | refine gi_sub (by omega) ?_ | refine gi_mul ?_ | refine go_nx rfl ?_)
      refine gm_get (.ref (ad 14)) rfl rfl ?_
      repeat (first | refine gi_con ?_ | refine gi_bip (Nat.le_of_ble_eq_true rfl) ?_ | refine gi_sip (Nat.le_of_ble_eq_true rfl) ?_ | refine gi_ldc ?_ | refine gi_add ?_ | refine gi_inc rfl ?_ | refine gi_sub (by omega) ?_ | refine gi_mul ?_ | refine go_nx rfl ?_)
      refine gm_ild hD (by decide) rfl (show s < 3 from hs) (by decide) ?_
      rw [(hS1 s hs).2.1, hS1s]
      repeat (first | refine gi_con ?_ | refine gi_bip (Nat.le_of_ble_eq_true rfl) ?_ | refine gi_sip (Nat.le_of_ble_eq_true rfl) ?_ | refine gi_ldc ?_ | refine gi_add ?_ | refine gi_inc rfl ?_ | refine gi_sub (by omega) ?_ | refine gi_mul ?_ | refine go_nx rfl ?_)
      first | refine gb_lt (by omega) (by omega) (fun c1 => ?_) (fun c1 => ?_) | refine gb_ge (by omega) (by omega) (fun c1 => ?_) (fun c1 => ?_) | refine gb_gt (by omega) (by omega) (fun c1 => ?_) (fun c1 => ?_) | refine gb_le (by omega) (by omega) (fun c1 => ?_) (fun c1 => ?_) | refine gb_eq (by omega) (by omega) (fun c1 => ?_) (fun c1 => ?_) | refine gb_ne (by omega) (by omega) (fun c1 => ?_) (fun c1 => ?_)
      · omega
      repeat (first | refine gi_con ?_ | refine gi_bip (Nat.le_of_ble_eq_true rfl) ?_ | refine gi_sip (Nat.le_of_ble_eq_true rfl) ?_ | refine gi_ldc ?_ | refine gi_add ?_ | refine gi_inc rfl ?_ | refine gi_sub (by omega) ?_ | refine gi_mul ?_ | refine go_nx rfl ?_)
      first | refine gt_eq (fun c2 => ?_) (fun c2 => ?_) | refine gt_ne (fun c2 => ?_) (fun c2 => ?_)
      · rw [c2, if_pos rfl] at hacc
        subst c2
        refine nine true acc C1 S1 hS1 hF1 hS1s hS1c ?_
        rw [if_pos rfl, List.append_assoc]
        exact hacc
      rw [c2, if_neg (by decide)] at hacc
      subst c2
      rw [show q_addr (r :: l.drop (k + 1)) = if 5 < r.1.1 then q_rr :: r :: l.drop (k + 1) else r :: q_addr (l.drop (k + 1)) from rfl] at hacc
      have hr6 : r.1.1 ≤ 6 := by
        refine (hlok r ?_).1.2.1
        rw [← hr, List.getD_eq_getElem?_getD, List.getElem?_eq_getElem hkl]
        exact List.getElem_mem hkl
      repeat (first | refine gi_con ?_ | refine gi_bip (Nat.le_of_ble_eq_true rfl) ?_ | refine gi_sip (Nat.le_of_ble_eq_true rfl) ?_ | refine gi_ldc ?_ | refine gi_add ?_ | refine gi_inc rfl ?_ | refine gi_sub (by omega) ?_ | refine gi_mul ?_ | refine go_nx rfl ?_)
      refine go_step ?_
      refine g_callV (by decide) (by decide) (Nat.le_of_ble_eq_true rfl) (Nat.le_of_ble_eq_true rfl) mH_rcv (by omega) (Nat.le_of_ble_eq_true rfl) rfl ?_
      refine sp_mfl (x := r) 0 hD hS1 hs (by rw [hS1s]; exact hkl) (by rw [hS1s]; exact hr) (by omega) ?_
      rw [show q_ef r.1 0 = nI r.1.1 from rfl]
      repeat (first | refine gi_con ?_ | refine gi_bip (Nat.le_of_ble_eq_true rfl) ?_ | refine gi_sip (Nat.le_of_ble_eq_true rfl) ?_ | refine gi_ldc ?_ | refine gi_add ?_ | refine gi_inc rfl ?_ | refine gi_sub (by omega) ?_ | refine gi_mul ?_ | refine go_nx rfl ?_)
      first | refine gb_lt (by omega) (by omega) (fun c3 => ?_) (fun c3 => ?_) | refine gb_ge (by omega) (by omega) (fun c3 => ?_) (fun c3 => ?_) | refine gb_gt (by omega) (by omega) (fun c3 => ?_) (fun c3 => ?_) | refine gb_le (by omega) (by omega) (fun c3 => ?_) (fun c3 => ?_) | refine gb_eq (by omega) (by omega) (fun c3 => ?_) (fun c3 => ?_) | refine gb_ne (by omega) (by omega) (fun c3 => ?_) (fun c3 => ?_)
      · rw [if_neg (by omega)] at hacc
        refine nine false acc C1 S1 hS1 hF1 hS1s hS1c ?_
        rw [if_neg (by decide), List.append_assoc]
        exact hacc
      · rw [if_pos (by omega)] at hacc
        repeat (first | refine gi_con ?_ | refine gi_bip (Nat.le_of_ble_eq_true rfl) ?_ | refine gi_sip (Nat.le_of_ble_eq_true rfl) ?_ | refine gi_ldc ?_ | refine gi_add ?_ | refine gi_inc rfl ?_ | refine gi_sub (by omega) ?_ | refine gi_mul ?_ | refine go_nx rfl ?_)
        refine go_step ?_
        refine g_callV (by decide) (by decide) (Nat.le_of_ble_eq_true rfl) (Nat.le_of_ble_eq_true rfl) mH_rcv (by omega) (Nat.le_of_ble_eq_true rfl) rfl ?_
        refine sp_mwriteE (lo := (5, 0, 0, 0)) (hi := (5, 2, 0, 0)) hD hS1 hc (by rw [hS1c]; omega) (fun C2 hS2 hF2 => ?_)
        repeat (first | refine gi_con ?_ | refine gi_bip (Nat.le_of_ble_eq_true rfl) ?_ | refine gi_sip (Nat.le_of_ble_eq_true rfl) ?_ | refine gi_ldc ?_ | refine gi_add ?_ | refine gi_inc rfl ?_ | refine gi_sub (by omega) ?_ | refine gi_mul ?_ | refine go_nx rfl ?_)
        refine go_jp rfl ?_
        refine nine true (acc ++ [q_rr]) C2 _ hS2 (mFr_t hF1 hF2) (by rw [uf_ne hsc]; exact hS1s) (by rw [uf_at, hS1c]; rfl) ?_
        rw [if_pos rfl, List.append_assoc, List.append_assoc]
        exact hacc
  have loop1 : ∀ (f p idx : Nat) (pre : List Nat) (C1 : Nat → Nat → Int32) (S1 : Nat → List qR) (x8 : Value), q_last B (q_val B e) < f + p → q_at (q_u8 B) (lev - 1) B false (q_last B (q_val B e)) p idx → q_els B (q_last B (q_val B e)) 2001 (q_val B e + 4) = pre ++ q_els B (q_last B (q_val B e)) f p → mS3 C1 S1 → mFr C C1 → S1 s = (pre.foldl (q_wstep (q_ord B B 17) B) none).getD (S s) → (∀ l, pre.foldl (q_wstep (q_ord B B 17) B) none = some l → ∀ r ∈ l, q_okR B n r) → mm_Go E d 149 (mm_blk 149 1) [.ref o, .int (nI s), .int (nI e), .int (nI b), .int (nI c), .int (q_t (pre.foldl (q_wstep (q_ord B B 17) B) none).isSome), .int (nI (q_val B e)), .int (nI p), x8] [] (mH h o ad I C1) Q := by
    intro f
    induction f with
    | zero =>
      intro p idx pre C1 S1 x8 hf hat
      have := q_at_le hat
      omega
    | succ f ih =>
      intro p idx pre C1 S1 x8 hf hat hels hS1 hF1 hS1s hlok
      have hpl := q_at_le hat
      repeat (first | refine gi_con ?_ | refine gi_bip (Nat.le_of_ble_eq_true rfl) ?_ | refine gi_sip (Nat.le_of_ble_eq_true rfl) ?_ | refine gi_ldc ?_ | refine gi_add ?_ | refine gi_inc rfl ?_ | refine gi_sub (by omega) ?_ | refine gi_mul ?_ | refine go_nx rfl ?_)
      refine go_step ?_
      refine g_callV (by decide) (by decide) (Nat.le_of_ble_eq_true rfl) (Nat.le_of_ble_eq_true rfl) mH_rcv (by omega) (Nat.le_of_ble_eq_true rfl) rfl ?_
      refine z_last (by omega) (hm _ _ hF1) hw (by omega) (by omega) ?_
      repeat (first | refine gi_con ?_ | refine gi_bip (Nat.le_of_ble_eq_true rfl) ?_ | refine gi_sip (Nat.le_of_ble_eq_true rfl) ?_ | refine gi_ldc ?_ | refine gi_add ?_ | refine gi_inc rfl ?_ | refine gi_sub (by omega) ?_ | refine gi_mul ?_ | refine go_nx rfl ?_)
      first | refine gb_lt (by omega) (by omega) (fun c1 => ?_) (fun c1 => ?_) | refine gb_ge (by omega) (by omega) (fun c1 => ?_) (fun c1 => ?_) | refine gb_gt (by omega) (by omega) (fun c1 => ?_) (fun c1 => ?_) | refine gb_le (by omega) (by omega) (fun c1 => ?_) (fun c1 => ?_) | refine gb_eq (by omega) (by omega) (fun c1 => ?_) (fun c1 => ?_) | refine gb_ne (by omega) (by omega) (fun c1 => ?_) (fun c1 => ?_)
      · have e0 : q_els B (q_last B (q_val B e)) (f + 1) p = [] := by
          unfold q_els
          rw [if_neg (by omega)]
        rw [e0, List.append_nil] at hels
        have hwe0 : q_we0 (q_ord B B 17) B e = pre.foldl (q_wstep (q_ord B B 17) B) none := by
          unfold q_we0
          rw [hels]
        cases hst : pre.foldl (q_wstep (q_ord B B 17) B) none with
        | none =>
          rw [hst] at hwe0 hS1s
          have hwe : q_we (q_ord B B 17) B e = none := by unfold q_we; rw [hwe0]; rfl
          rw [hwe] at hq
          repeat (first | refine gi_con ?_ | refine gi_bip (Nat.le_of_ble_eq_true rfl) ?_ | refine gi_sip (Nat.le_of_ble_eq_true rfl) ?_ | refine gi_ldc ?_ | refine gi_add ?_ | refine gi_inc rfl ?_ | refine gi_sub (by omega) ?_ | refine gi_mul ?_ | refine go_nx rfl ?_)
          refine gt_ne (fun c2 => by cases c2) (fun c2 => ?_)
          repeat (first | refine gi_con ?_ | refine gi_bip (Nat.le_of_ble_eq_true rfl) ?_ | refine gi_sip (Nat.le_of_ble_eq_true rfl) ?_ | refine gi_ldc ?_ | refine gi_add ?_ | refine gi_inc rfl ?_ | refine gi_sub (by omega) ?_ | refine gi_mul ?_ | refine go_nx rfl ?_)
          refine go_rt rfl ?_
          exact hq C1 S1 hS1 hS1s hF1
        | some l =>
          rw [hst] at hwe0 hS1s
          repeat (first | refine gi_con ?_ | refine gi_bip (Nat.le_of_ble_eq_true rfl) ?_ | refine gi_sip (Nat.le_of_ble_eq_true rfl) ?_ | refine gi_ldc ?_ | refine gi_add ?_ | refine gi_inc rfl ?_ | refine gi_sub (by omega) ?_ | refine gi_mul ?_ | refine go_nx rfl ?_)
          refine gt_ne (fun c2 => ?_) (fun c2 => by cases c2)
          repeat (first | refine gi_con ?_ | refine gi_bip (Nat.le_of_ble_eq_true rfl) ?_ | refine gi_sip (Nat.le_of_ble_eq_true rfl) ?_ | refine gi_ldc ?_ | refine gi_add ?_ | refine gi_inc rfl ?_ | refine gi_sub (by omega) ?_ | refine gi_mul ?_ | refine go_nx rfl ?_)
          refine gm_get (.ref (ad 14)) rfl rfl ?_
          repeat (first | refine gi_con ?_ | refine gi_bip (Nat.le_of_ble_eq_true rfl) ?_ | refine gi_sip (Nat.le_of_ble_eq_true rfl) ?_ | refine gi_ldc ?_ | refine gi_add ?_ | refine gi_inc rfl ?_ | refine gi_sub (by omega) ?_ | refine gi_mul ?_ | refine go_nx rfl ?_)
          refine gm_ist hD (by decide) rfl (show c < 3 from hc) (by decide) ?_
          repeat (first | refine gi_con ?_ | refine gi_bip (Nat.le_of_ble_eq_true rfl) ?_ | refine gi_sip (Nat.le_of_ble_eq_true rfl) ?_ | refine gi_ldc ?_ | refine gi_add ?_ | refine gi_inc rfl ?_ | refine gi_sub (by omega) ?_ | refine gi_mul ?_ | refine go_nx rfl ?_)
          refine go_jp rfl ?_
          have hl999 : l.length ≤ 999 := hok.2 pre [] (by rw [List.append_nil]; exact hels) l hst
          exact loop2 l hwe0 l.length 0 [] false _ _ (by omega) hl999 (mS3_zero (s := c) hS1) (mFr_14 hF1) (by rw [uf_ne hsc]; exact hS1s) (uf_at _ _ _) (hlok l hst) (by rw [if_neg (by decide), List.drop_zero, List.nil_append])
      have c1' : p < q_last B (q_val B e) := by omega
      have eels : q_els B (q_last B (q_val B e)) (f + 1) p = p :: q_els B (q_last B (q_val B e)) f (q_next B p) := by
        rw [q_els, if_pos c1']
      have hels2 : q_els B (q_last B (q_val B e)) 2001 (q_val B e + 4) = (pre ++ [p]) ++ q_els B (q_last B (q_val B e)) f (q_next B p) := by
        rw [hels, eels, List.append_assoc]
        rfl
      have hel := q_at_el hat c1'
      have hme := q_me_at (n := n) hat c1' (by omega)
      have hoki := q_me_ok hme
      have hnx := q_at_le hel.2.2.2.2
      obtain ⟨j1, j2, j3⟩ := q_ok_in hw.2.2 hoki
      obtain ⟨m2, m12, m9, m10, m7, m8, m13⟩ := q_nof_iff (q_word B p)
      have efold : (pre ++ [p]).foldl (q_wstep (q_ord B B 17) B) none = q_wstep (q_ord B B 17) B (pre.foldl (q_wstep (q_ord B B 17) B) none) p := by
        rw [List.foldl_append]
        rfl
      have five : ∀ (st2 : Option (List qR)) (C2 : Nat → Nat → Int32) (S2 : Nat → List qR), q_wstep (q_ord B B 17) B (pre.foldl (q_wstep (q_ord B B 17) B) none) p = st2 → mS3 C2 S2 → mFr C C2 → S2 s = st2.getD (S s) → (∀ l, st2 = some l → ∀ r ∈ l, q_okR B n r) → mm_Go E d 149 (mm_blk 149 5) [.ref o, .int (nI s), .int (nI e), .int (nI b), .int (nI c), .int (q_t st2.isSome), .int (nI (q_val B e)), .int (nI p), .int (nI (q_nof (q_word B p)))] [] (mH h o ad I C2) Q := by
        intro st2 C2 S2 hst2 hS2 hF2 hS2s hlok2
        repeat (first | refine gi_con ?_ | refine gi_bip (Nat.le_of_ble_eq_true rfl) ?_ | refine gi_sip (Nat.le_of_ble_eq_true rfl) ?_ | refine gi_ldc ?_ | refine gi_add ?_ | refine gi_inc rfl ?_ | refine gi_sub (by omega) ?_ | refine gi_mul ?_ | refine go_nx rfl ?_)
        refine go_step ?_
        refine g_callV (by decide) (by decide) (Nat.le_of_ble_eq_true rfl) (Nat.le_of_ble_eq_true rfl) mH_rcv (by omega) (Nat.le_of_ble_eq_true rfl) rfl ?_
        refine z_next (by omega) (hm _ _ hF2) hw hoki ?_
        repeat (first | refine gi_con ?_ | refine gi_bip (Nat.le_of_ble_eq_true rfl) ?_ | refine gi_sip (Nat.le_of_ble_eq_true rfl) ?_ | refine gi_ldc ?_ | refine gi_add ?_ | refine gi_inc rfl ?_ | refine gi_sub (by omega) ?_ | refine gi_mul ?_ | refine go_nx rfl ?_)
        refine go_jp rfl ?_
        have := ih (q_next B p) (idx + 1) (pre ++ [p]) C2 S2 (.int (nI (q_nof (q_word B p)))) (by omega) hel.2.2.2.2 hels2 hS2 hF2 (by rw [efold, hst2]; exact hS2s) (fun l hl => hlok2 l (by rw [← hst2, ← efold]; exact hl))
        rw [efold, hst2] at this
        exact this
      repeat (first | refine gi_con ?_ | refine gi_bip (Nat.le_of_ble_eq_true rfl) ?_ | refine gi_sip (Nat.le_of_ble_eq_true rfl) ?_ | refine gi_ldc ?_ | refine gi_add ?_ | refine gi_inc rfl ?_ | refine gi_sub (by omega) ?_ | refine gi_mul ?_ | refine go_nx rfl ?_)
      refine go_step ?_
      refine g_callV (by decide) (by decide) (Nat.le_of_ble_eq_true rfl) (Nat.le_of_ble_eq_true rfl) mH_rcv (by omega) (Nat.le_of_ble_eq_true rfl) rfl ?_
      refine z_nof (by omega) (hm _ _ hF1) hw hoki.2.1 (by omega) ?_
      repeat (first | refine gi_con ?_ | refine gi_bip (Nat.le_of_ble_eq_true rfl) ?_ | refine gi_sip (Nat.le_of_ble_eq_true rfl) ?_ | refine gi_ldc ?_ | refine gi_add ?_ | refine gi_inc rfl ?_ | refine gi_sub (by omega) ?_ | refine gi_mul ?_ | refine go_nx rfl ?_)
      first | refine gb_lt (by omega) (by omega) (fun c2 => ?_) (fun c2 => ?_) | refine gb_ge (by omega) (by omega) (fun c2 => ?_) (fun c2 => ?_) | refine gb_gt (by omega) (by omega) (fun c2 => ?_) (fun c2 => ?_) | refine gb_le (by omega) (by omega) (fun c2 => ?_) (fun c2 => ?_) | refine gb_eq (by omega) (by omega) (fun c2 => ?_) (fun c2 => ?_) | refine gb_ne (by omega) (by omega) (fun c2 => ?_) (fun c2 => ?_)
      · exact five _ C1 S1 (by unfold q_wstep; rw [if_neg (by omega)]) hS1 hF1 hS1s hlok
      repeat (first | refine gi_con ?_ | refine gi_bip (Nat.le_of_ble_eq_true rfl) ?_ | refine gi_sip (Nat.le_of_ble_eq_true rfl) ?_ | refine gi_ldc ?_ | refine gi_add ?_ | refine gi_inc rfl ?_ | refine gi_sub (by omega) ?_ | refine gi_mul ?_ | refine go_nx rfl ?_)
      first | refine gb_lt (by omega) (by omega) (fun c3 => ?_) (fun c3 => ?_) | refine gb_ge (by omega) (by omega) (fun c3 => ?_) (fun c3 => ?_) | refine gb_gt (by omega) (by omega) (fun c3 => ?_) (fun c3 => ?_) | refine gb_le (by omega) (by omega) (fun c3 => ?_) (fun c3 => ?_) | refine gb_eq (by omega) (by omega) (fun c3 => ?_) (fun c3 => ?_) | refine gb_ne (by omega) (by omega) (fun c3 => ?_) (fun c3 => ?_)
      · exact five _ C1 S1 (by unfold q_wstep; rw [if_neg (by omega)]) hS1 hF1 hS1s hlok
      have hin2 : q_nof (q_word B p) = 2 → B p = 4 := hok.1 p (by rw [hels2]; simp)
      repeat (first | refine gi_con ?_ | refine gi_bip (Nat.le_of_ble_eq_true rfl) ?_ | refine gi_sip (Nat.le_of_ble_eq_true rfl) ?_ | refine gi_ldc ?_ | refine gi_add ?_ | refine gi_inc rfl ?_ | refine gi_sub (by omega) ?_ | refine gi_mul ?_ | refine go_nx rfl ?_)
      refine go_step ?_
      refine g_callV (by decide) (by decide) (Nat.le_of_ble_eq_true rfl) (Nat.le_of_ble_eq_true rfl) mH_rcv (by omega) (Nat.le_of_ble_eq_true rfl) rfl ?_
      refine sp_mwb (lev := lev - 1) (by omega) hD (hC' _ hF1) hR hw hS1 hb hme (by omega) ⟨by omega, by omega⟩ hin2 (fun C2 hS2 hF2 => ?_)
      have estep : q_wstep (q_ord B B 17) B (pre.foldl (q_wstep (q_ord B B 17) B) none) p = q_join2 (q_ord B B 17) (pre.foldl (q_wstep (q_ord B B 17) B) none) (q_wb (q_ord B B 17) B (q_nof (q_word B p)) p) := by
        unfold q_wstep
        rw [if_pos ⟨by omega, by omega⟩]
      cases hwb : q_wb (q_ord B B 17) B (q_nof (q_word B p)) p with
      | none =>
        rw [hwb] at hS2 estep
        repeat (first | refine gi_con ?_ | refine gi_bip (Nat.le_of_ble_eq_true rfl) ?_ | refine gi_sip (Nat.le_of_ble_eq_true rfl) ?_ | refine gi_ldc ?_ | refine gi_add ?_ | refine gi_inc rfl ?_ | refine gi_sub (by omega) ?_ | refine gi_mul ?_ | refine go_nx rfl ?_)
        refine gt_ne (fun c4 => by cases c4) (fun c4 => ?_)
        refine go_jp rfl ?_
        exact five _ C2 _ estep hS2 (mFr_t hF1 hF2) (by rw [uf_ne hsb]; exact hS1s) hlok
      | some rows =>
        rw [hwb] at hS2 estep
        have hrok := q_wb_ok hme (by omega) hin2 hwb
        have hS2b : (uf S1 b rows) b = rows := uf_at _ _ _
        have hS2s : (uf S1 b rows) s = (pre.foldl (q_wstep (q_ord B B 17) B) none).getD (S s) := by rw [uf_ne hsb]; exact hS1s
        have hS2' : mS3 C2 (uf S1 b rows) := hS2
        have four : ∀ (l2 : List qR) (any : Bool) (C3 : Nat → Nat → Int32) (S3 : Nat → List qR), q_join2 (q_ord B B 17) (pre.foldl (q_wstep (q_ord B B 17) B) none) (some rows) = some l2 → mS3 C3 S3 → mFr C C3 → S3 s = l2 → (∀ r ∈ l2, q_okR B n r) → mm_Go E d 149 (mm_blk 149 4) [.ref o, .int (nI s), .int (nI e), .int (nI b), .int (nI c), .int (q_t any), .int (nI (q_val B e)), .int (nI p), .int (nI (q_nof (q_word B p)))] [] (mH h o ad I C3) Q := by
          intro l2 any C3 S3 hj hS3 hF3 hS3s hok3
          repeat (first | refine gi_con ?_ | refine gi_bip (Nat.le_of_ble_eq_true rfl) ?_ | refine gi_sip (Nat.le_of_ble_eq_true rfl) ?_ | refine gi_ldc ?_ | refine gi_add ?_ | refine gi_inc rfl ?_ | refine gi_sub (by omega) ?_ | refine gi_mul ?_ | refine go_nx rfl ?_)
          refine go_jp rfl ?_
          exact five (some l2) C3 S3 (estep.trans hj) hS3 hF3 hS3s (fun l hl => by cases hl; exact hok3)
        repeat (first | refine gi_con ?_ | refine gi_bip (Nat.le_of_ble_eq_true rfl) ?_ | refine gi_sip (Nat.le_of_ble_eq_true rfl) ?_ | refine gi_ldc ?_ | refine gi_add ?_ | refine gi_inc rfl ?_ | refine gi_sub (by omega) ?_ | refine gi_mul ?_ | refine go_nx rfl ?_)
        refine gt_ne (fun c4 => ?_) (fun c4 => by cases c4)
        repeat (first | refine gi_con ?_ | refine gi_bip (Nat.le_of_ble_eq_true rfl) ?_ | refine gi_sip (Nat.le_of_ble_eq_true rfl) ?_ | refine gi_ldc ?_ | refine gi_add ?_ | refine gi_inc rfl ?_ | refine gi_sub (by omega) ?_ | refine gi_mul ?_ | refine go_nx rfl ?_)
        cases hst : pre.foldl (q_wstep (q_ord B B 17) B) none with
        | none =>
          rw [hst] at four hS2s
          refine gt_eq (fun c5 => ?_) (fun c5 => by cases c5)
          repeat (first | refine gi_con ?_ | refine gi_bip (Nat.le_of_ble_eq_true rfl) ?_ | refine gi_sip (Nat.le_of_ble_eq_true rfl) ?_ | refine gi_ldc ?_ | refine gi_add ?_ | refine gi_inc rfl ?_ | refine gi_sub (by omega) ?_ | refine gi_mul ?_ | refine go_nx rfl ?_)
          refine go_step ?_
          refine g_callV (by decide) (by decide) (Nat.le_of_ble_eq_true rfl) (Nat.le_of_ble_eq_true rfl) mH_rcv (by omega) (Nat.le_of_ble_eq_true rfl) rfl ?_
          refine sp_mcopy hD hS2' hb hs (Ne.symm hsb) (fun C3 hS3 hF3 => ?_)
          repeat (first | refine gi_con ?_ | refine gi_bip (Nat.le_of_ble_eq_true rfl) ?_ | refine gi_sip (Nat.le_of_ble_eq_true rfl) ?_ | refine gi_ldc ?_ | refine gi_add ?_ | refine gi_inc rfl ?_ | refine gi_sub (by omega) ?_ | refine gi_mul ?_ | refine go_nx rfl ?_)
          refine go_jp rfl ?_
          exact four rows false C3 _ rfl hS3 (mFr_t (mFr_t hF1 hF2) hF3) (by rw [uf_at, hS2b]) hrok
        | some cur =>
          rw [hst] at four hS2s
          have hS2s : (uf S1 b rows) s = cur := hS2s
          have hcok := hlok cur hst
          have hl999 : (q_meet (q_ord B B 17) cur rows).length ≤ 999 := by
            refine hok.2 (pre ++ [p]) _ hels2 _ ?_
            rw [efold, estep, hst]
            rfl
          refine gt_eq (fun c5 => by cases c5) (fun c5 => ?_)
          repeat (first | refine gi_con ?_ | refine gi_bip (Nat.le_of_ble_eq_true rfl) ?_ | refine gi_sip (Nat.le_of_ble_eq_true rfl) ?_ | refine gi_ldc ?_ | refine gi_add ?_ | refine gi_inc rfl ?_ | refine gi_sub (by omega) ?_ | refine gi_mul ?_ | refine go_nx rfl ?_)
          refine go_step ?_
          refine g_callV (by decide) (by decide) (Nat.le_of_ble_eq_true rfl) (Nat.le_of_ble_eq_true rfl) mH_rcv (by omega) (Nat.le_of_ble_eq_true rfl) rfl ?_
          refine sp_mmeet (by omega) hD (hC' _ (mFr_t hF1 hF2)) hR hw hS2' hs hb hc hsc hbc (by rw [hS2s]; exact hcok) (by rw [hS2b]; exact hrok) (by rw [hS2s, hS2b]; omega) (fun C3 hS3 hF3 => ?_)
          rw [hS2s, hS2b] at hS3
          repeat (first | refine gi_con ?_ | refine gi_bip (Nat.le_of_ble_eq_true rfl) ?_ | refine gi_sip (Nat.le_of_ble_eq_true rfl) ?_ | refine gi_ldc ?_ | refine gi_add ?_ | refine gi_inc rfl ?_ | refine gi_sub (by omega) ?_ | refine gi_mul ?_ | refine go_nx rfl ?_)
          refine go_jp rfl ?_
          exact four _ true C3 _ rfl hS3 (mFr_t (mFr_t hF1 hF2) hF3) (uf_at _ _ _) (q_meet_ok hcok hrok)
  repeat (first | refine gi_con ?_ | refine gi_bip (Nat.le_of_ble_eq_true rfl) ?_ | refine gi_sip (Nat.le_of_ble_eq_true rfl) ?_ | refine gi_ldc ?_ | refine gi_add ?_ | refine gi_inc rfl ?_ | refine gi_sub (by omega) ?_ | refine gi_mul ?_ | refine go_nx rfl ?_)
  refine go_step ?_
  refine g_callV (by decide) (by decide) (Nat.le_of_ble_eq_true rfl) (Nat.le_of_ble_eq_true rfl) mH_rcv (by omega) (Nat.le_of_ble_eq_true rfl) rfl ?_
  refine z_val (by omega) (hm _ _ (mFr_r C)) hw hoke.2.1 ?_
  repeat (first | refine gi_con ?_ | refine gi_bip (Nat.le_of_ble_eq_true rfl) ?_ | refine gi_sip (Nat.le_of_ble_eq_true rfl) ?_ | refine gi_ldc ?_ | refine gi_add ?_ | refine gi_inc rfl ?_ | refine gi_sub (by omega) ?_ | refine gi_mul ?_ | refine go_nx rfl ?_)
  refine go_jp rfl ?_
  exact loop1 2001 (q_val B e + 4) 0 [] C S _ (by omega) b5 rfl hS (mFr_r C) rfl (fun l hl => by cases hl)
end M
