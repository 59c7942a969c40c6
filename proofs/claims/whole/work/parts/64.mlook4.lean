theorem gl_lt {E : mmE} {d m pc : Nat} {is : List mmI} {L S : List Value} {h : mmH} {Q : Option Value → mmH → Prop} {ex : List Nat} {off : Int} {x y : Int64} (h1 : x < y → mm_Go E d m (mm_blk m (mm_k0 ex)) L S h Q) (h2 : y ≤ x → mm_Go E d m is L S h Q) : mm_Go E d m ((pc, .ifCond .lt off, ex) :: is) L (.int (lg_cmp x y) :: S) h Q :=
  go_br (c := decide (lg_cmp x y < 0)) rfl (fun c => h1 ((lg_cmp_lt x y).mp (of_decide_eq_true c))) (fun c => h2 (by
    have c1 := of_decide_eq_false c
    rw [lg_cmp_lt] at c1
    exact Int64.not_lt.mp c1))
theorem q_nof_iff (w : Nat) : (q_nof w = 2 ↔ w = 7) ∧ (q_nof w = 12 ↔ w = 8) ∧ (q_nof w = 9 ↔ w = 13) ∧ (q_nof w = 10 ↔ w = 14) ∧ (q_nof w = 7 ↔ w = 15) ∧ (q_nof w = 8 ↔ w = 16) ∧ q_nof w ≤ 12 := by
  unfold q_nof
  repeat' split
  all_goals omega
section M
variable {E : mmE} {h : mmH} {o n b : Nat} {ad : Nat → Nat} {I : Nat → Int32} {C : Nat → Nat → Int32} {R B : Nat → Nat}
theorem sp_misofi {d : Nat} {h : mmH} {Q : Option Value → mmH → Prop} {o st e lev last : Nat} (hd : 3 ≤ d) (hm : mSt h o st R) (hw : mW R b n B) (hok : q_ok B n e) (hln : last ≤ n) (hbx : B e = 3 → q_box (q_u8 B) B lev (q_val B e) last false = true) (hq : Q (some (.int (q_t (q_ofi B e)))) h) : mm_Go E d 139 (mm_blk 139 0) [.ref o, .int (nI (b + e))] [] h Q := by
  have hrn := hw.2.2.1
  unfold q_ofi at hq
  repeat (first | refine gi_con ?_ | refine gi_bip (Nat.le_of_ble_eq_true rfl) ?_ | refine gi_sip (Nat.le_of_ble_eq_true rfl) ?_ | refine gi_ldc ?_ | refine gi_add ?_ | refine gi_inc rfl ?_ | refine gi_sub (by omega) ?_ | refine gi_mul ?_ | refine go_nx rfl ?_)
  refine go_step ?_
  refine g_callV (by decide) (by decide) (Nat.le_of_ble_eq_true rfl) (Nat.le_of_ble_eq_true rfl) (mSt_rcv hm) (by omega) (Nat.le_of_ble_eq_true rfl) rfl ?_
  refine sp_miscond (by omega) hm hw hok ?_
  repeat (first | refine gi_con ?_ | refine gi_bip (Nat.le_of_ble_eq_true rfl) ?_ | refine gi_sip (Nat.le_of_ble_eq_true rfl) ?_ | refine gi_ldc ?_ | refine gi_add ?_ | refine gi_inc rfl ?_ | refine gi_sub (by omega) ?_ | refine gi_mul ?_ | refine go_nx rfl ?_)
  first | refine gt_eq (fun c1 => ?_) (fun c1 => ?_) | refine gt_ne (fun c1 => ?_) (fun c1 => ?_)
  · rw [c1] at hq
    repeat (first | refine gi_con ?_ | refine gi_bip (Nat.le_of_ble_eq_true rfl) ?_ | refine gi_sip (Nat.le_of_ble_eq_true rfl) ?_ | refine gi_ldc ?_ | refine gi_add ?_ | refine gi_inc rfl ?_ | refine gi_sub (by omega) ?_ | refine gi_mul ?_ | refine go_nx rfl ?_)
    refine go_jp rfl ?_
    refine go_rt rfl ?_
    exact hq
  have c1' := c1
  unfold q_cond at c1'
  simp only [Bool.and_eq_true, decide_eq_true_eq] at c1'
  obtain ⟨k1, k2, k3⟩ := c1'
  have hb := hbx k1
  have hlev : lev = lev - 1 + 1 := by have := q_box_pos hb; omega
  rw [hlev] at hb
  obtain ⟨g1, g2, g3, g4⟩ := q_box_at hb
  have g5 : q_val B e + 4 < q_last B (q_val B e) := by unfold q_last; omega
  have g6 := q_at_ok (n := n) g4 g5 (by unfold q_last; omega)
  rw [c1, Bool.true_and] at hq
  repeat (first | refine gi_con ?_ | refine gi_bip (Nat.le_of_ble_eq_true rfl) ?_ | refine gi_sip (Nat.le_of_ble_eq_true rfl) ?_ | refine gi_ldc ?_ | refine gi_add ?_ | refine gi_inc rfl ?_ | refine gi_sub (by omega) ?_ | refine gi_mul ?_ | refine go_nx rfl ?_)
  refine go_step ?_
  refine g_callV (by decide) (by decide) (Nat.le_of_ble_eq_true rfl) (Nat.le_of_ble_eq_true rfl) (mSt_rcv hm) (by omega) (Nat.le_of_ble_eq_true rfl) rfl ?_
  refine sp_mval (by omega) hm hw hok.2.1 ?_
  repeat (first | refine gi_con ?_ | refine gi_bip (Nat.le_of_ble_eq_true rfl) ?_ | refine gi_sip (Nat.le_of_ble_eq_true rfl) ?_ | refine gi_ldc ?_ | refine gi_add ?_ | refine gi_inc rfl ?_ | refine gi_sub (by omega) ?_ | refine gi_mul ?_ | refine go_nx rfl ?_)
  refine go_step ?_
  refine g_callV (by decide) (by decide) (Nat.le_of_ble_eq_true rfl) (Nat.le_of_ble_eq_true rfl) (mSt_rcv hm) (by omega) (Nat.le_of_ble_eq_true rfl) rfl ?_
  rw [Nat.add_assoc]
  refine sp_misjoin (by omega) hm hw g6.2.1 (by have := g6.1; omega) ?_
  repeat (first | refine gi_con ?_ | refine gi_bip (Nat.le_of_ble_eq_true rfl) ?_ | refine gi_sip (Nat.le_of_ble_eq_true rfl) ?_ | refine gi_ldc ?_ | refine gi_add ?_ | refine gi_inc rfl ?_ | refine gi_sub (by omega) ?_ | refine gi_mul ?_ | refine go_nx rfl ?_)
  first | refine gt_eq (fun c2 => ?_) (fun c2 => ?_) | refine gt_ne (fun c2 => ?_) (fun c2 => ?_)
  · rw [c2] at hq
    repeat (first | refine gi_con ?_ | refine gi_bip (Nat.le_of_ble_eq_true rfl) ?_ | refine gi_sip (Nat.le_of_ble_eq_true rfl) ?_ | refine gi_ldc ?_ | refine gi_add ?_ | refine gi_inc rfl ?_ | refine gi_sub (by omega) ?_ | refine gi_mul ?_ | refine go_nx rfl ?_)
    refine go_jp rfl ?_
    refine go_rt rfl ?_
    exact hq
  · rw [c2] at hq
    repeat (first | refine gi_con ?_ | refine gi_bip (Nat.le_of_ble_eq_true rfl) ?_ | refine gi_sip (Nat.le_of_ble_eq_true rfl) ?_ | refine gi_ldc ?_ | refine gi_add ?_ | refine gi_inc rfl ?_ | refine gi_sub (by omega) ?_ | refine gi_mul ?_ | refine go_nx rfl ?_)
    refine go_jp rfl ?_
    refine go_rt rfl ?_
    exact hq
theorem sp_mlook (hD : mD o ad) (hC : ∀ j, j < 22100 → C 1 j = sb_b (R j)) (hR : ∀ j, R j < 256) (hw : mW R b n B) : ∀ (k : Nat),
    (∀ (d v stop lev c : Nat) (Q : Option Value → mmH → Prop), 2 * k + 8 ≤ d → lev ≤ k → q_box (q_u8 B) B lev v stop false = true → stop ≤ n → c ≤ 100 → mEnd h o ad I C Q (q_flt B k false v c) → mm_Go E d 127 (mm_blk 127 0) [.ref o, .int (nI (b + v)), mm_un] [] (mH h o ad (mI I c 0) C) Q) ∧
    (∀ (d v stop lev c : Nat) (Q : Option Value → mmH → Prop), 2 * k + 8 ≤ d → lev ≤ k → q_box (q_u8 B) B lev v stop false = true → stop ≤ n → c ≤ 100 → mEnd h o ad I C Q (q_flt B k true v c) → mm_Go E d 136 (mm_blk 136 0) [.ref o, .int (nI (b + v)), mm_un, mm_un, mm_un, mm_un, mm_un] [] (mH h o ad (mI I c 0) C) Q) := by
  have w2 := hw.2.1
  have hrn := hw.2.2.1
  have hm : ∀ I, mSt (mH h o ad I C) o (ad 1) R := fun I => mH_st hD hC hR
  intro k
  induction k with
  | zero =>
    refine ⟨?_, ?_⟩
    · intro d v stop lev c Q hd hl hb
      have := q_box_pos hb
      omega
    · intro d v stop lev c Q hd hl hb
      have := q_box_pos hb
      omega
  | succ k ih =>
    refine ⟨?_, ?_⟩
    · intro d v stop lev c Q hd hl hb hst hc hq
      have hlev : lev = lev - 1 + 1 := by have := q_box_pos hb; omega
      rw [hlev] at hb
      obtain ⟨g1, g2, g3, g4⟩ := q_box_at hb
      have hlastn : q_last B v < n := by unfold q_last; omega
      unfold q_flt at hq
      have gone : ∀ (f c1 e : Nat), 0 < f → f < 100 → e ≤ q_last B v → Q none (mH h o ad (mI I c1 f) C) → mm_Go E d 127 (mm_blk 127 1) [.ref o, .int (nI (b + v)), .int (nI (b + e))] [] (mH h o ad (mI I c1 f) C) Q := by
        intro f c1 e h1 h2 h3 hq
        repeat (first | refine gi_con ?_ | refine gi_bip (Nat.le_of_ble_eq_true rfl) ?_ | refine gi_sip (Nat.le_of_ble_eq_true rfl) ?_ | refine gi_ldc ?_ | refine gi_add ?_ | refine gi_inc rfl ?_ | refine gi_sub (by omega) ?_ | refine gi_mul ?_ | refine go_nx rfl ?_)
        refine go_step ?_
        refine g_callV (by decide) (by decide) (Nat.le_of_ble_eq_true rfl) (Nat.le_of_ble_eq_true rfl) mH_rcv (by omega) (Nat.le_of_ble_eq_true rfl) rfl ?_
        refine sp_mlast (by omega) (hm _) hw (by omega) (by omega) ?_
        repeat (first | refine gi_con ?_ | refine gi_bip (Nat.le_of_ble_eq_true rfl) ?_ | refine gi_sip (Nat.le_of_ble_eq_true rfl) ?_ | refine gi_ldc ?_ | refine gi_add ?_ | refine gi_inc rfl ?_ | refine gi_sub (by omega) ?_ | refine gi_mul ?_ | refine go_nx rfl ?_)
        first | refine gb_lt (by omega) (by omega) (fun c2 => ?_) (fun c2 => ?_) | refine gb_ge (by omega) (by omega) (fun c2 => ?_) (fun c2 => ?_) | refine gb_gt (by omega) (by omega) (fun c2 => ?_) (fun c2 => ?_) | refine gb_le (by omega) (by omega) (fun c2 => ?_) (fun c2 => ?_) | refine gb_eq (by omega) (by omega) (fun c2 => ?_) (fun c2 => ?_) | refine gb_ne (by omega) (by omega) (fun c2 => ?_) (fun c2 => ?_)
        · refine go_rt rfl ?_
          exact hq
        repeat (first | refine gi_con ?_ | refine gi_bip (Nat.le_of_ble_eq_true rfl) ?_ | refine gi_sip (Nat.le_of_ble_eq_true rfl) ?_ | refine gi_ldc ?_ | refine gi_add ?_ | refine gi_inc rfl ?_ | refine gi_sub (by omega) ?_ | refine gi_mul ?_ | refine go_nx rfl ?_)
        refine gm_get (.int (nI f)) rfl rfl ?_
        first | refine gz_eq (by omega) (fun c3 => ?_) (fun c3 => ?_) | refine gz_ne (by omega) (fun c3 => ?_) (fun c3 => ?_) | refine gz_le (by omega) (fun c3 => ?_) (fun c3 => ?_) | refine gz_gt (by omega) (fun c3 => ?_) (fun c3 => ?_) | refine gz_lt (by omega) (fun c3 => ?_) (fun c3 => ?_) | refine gz_ge (by omega) (fun c3 => ?_) (fun c3 => ?_)
        · refine go_rt rfl ?_
          exact hq
        · omega
      have loop : ∀ (f e idx c : Nat), q_last B v < f + e → q_at (q_u8 B) (lev - 1) B false (q_last B v) e idx → c ≤ 100 → mEnd h o ad I C Q (q_lp B (q_last B v) (fun e c =>
          if q_word B e = 0 then (if q_gp B e = false then (3, c) else if q_cond B e = true then q_then (q_cnt c 1) (fun c => q_flt B k true (q_val B e) c) else q_cnt c 2)
          else if q_join B e = false then (1, c) else if B e ≠ 4 ∨ q_sz B (q_val B e) = 5 then (2, c) else q_then (q_cnt c 1) (fun c => q_lp B (q_last B (q_val B e)) (fun i c => if B i = 3 then q_flt B k false (q_val B i) c else (2, c)) 2001 (q_val B e + 4) c)) f e c) → mm_Go E d 127 (mm_blk 127 1) [.ref o, .int (nI (b + v)), .int (nI (b + e))] [] (mH h o ad (mI I c 0) C) Q := by
        intro f
        induction f with
        | zero =>
          intro e idx c hf hat
          have := q_at_le hat
          omega
        | succ f ihf =>
          intro e idx c hf hat hc hq
          have hel := q_at_le hat
          unfold q_lp at hq
          repeat (first | refine gi_con ?_ | refine gi_bip (Nat.le_of_ble_eq_true rfl) ?_ | refine gi_sip (Nat.le_of_ble_eq_true rfl) ?_ | refine gi_ldc ?_ | refine gi_add ?_ | refine gi_inc rfl ?_ | refine gi_sub (by omega) ?_ | refine gi_mul ?_ | refine go_nx rfl ?_)
          refine go_step ?_
          refine g_callV (by decide) (by decide) (Nat.le_of_ble_eq_true rfl) (Nat.le_of_ble_eq_true rfl) mH_rcv (by omega) (Nat.le_of_ble_eq_true rfl) rfl ?_
          refine sp_mlast (by omega) (hm _) hw (by omega) (by omega) ?_
          repeat (first | refine gi_con ?_ | refine gi_bip (Nat.le_of_ble_eq_true rfl) ?_ | refine gi_sip (Nat.le_of_ble_eq_true rfl) ?_ | refine gi_ldc ?_ | refine gi_add ?_ | refine gi_inc rfl ?_ | refine gi_sub (by omega) ?_ | refine gi_mul ?_ | refine go_nx rfl ?_)
          first | refine gb_lt (by omega) (by omega) (fun c2 => ?_) (fun c2 => ?_) | refine gb_ge (by omega) (by omega) (fun c2 => ?_) (fun c2 => ?_) | refine gb_gt (by omega) (by omega) (fun c2 => ?_) (fun c2 => ?_) | refine gb_le (by omega) (by omega) (fun c2 => ?_) (fun c2 => ?_) | refine gb_eq (by omega) (by omega) (fun c2 => ?_) (fun c2 => ?_) | refine gb_ne (by omega) (by omega) (fun c2 => ?_) (fun c2 => ?_)
          · rw [if_neg (by omega)] at hq
            refine go_rt rfl ?_
            exact hq c (fun _ => rfl)
          repeat (first | refine gi_con ?_ | refine gi_bip (Nat.le_of_ble_eq_true rfl) ?_ | refine gi_sip (Nat.le_of_ble_eq_true rfl) ?_ | refine gi_ldc ?_ | refine gi_add ?_ | refine gi_inc rfl ?_ | refine gi_sub (by omega) ?_ | refine gi_mul ?_ | refine go_nx rfl ?_)
          refine gm_get (.int (nI 0)) rfl rfl ?_
          first | refine gz_eq (by omega) (fun c3 => ?_) (fun c3 => ?_) | refine gz_ne (by omega) (fun c3 => ?_) (fun c3 => ?_) | refine gz_le (by omega) (fun c3 => ?_) (fun c3 => ?_) | refine gz_gt (by omega) (fun c3 => ?_) (fun c3 => ?_) | refine gz_lt (by omega) (fun c3 => ?_) (fun c3 => ?_) | refine gz_ge (by omega) (fun c3 => ?_) (fun c3 => ?_)
          · omega
          have hlt : e < q_last B v := by omega
          rw [if_pos hlt] at hq
          have hele := q_at_el hat hlt
          have hok := q_at_ok (n := n) hat hlt (by omega)
          have hnx : q_next B e ≤ q_last B v := q_at_le hele.2.2.2.2
          obtain ⟨i1, i2, i3⟩ := q_ok_in hw.2.2 hok
          have hB1 := hw.2.2.2.1 (e + 1)
          have three : ∀ (r : Nat × Nat) (c1 : Nat), q_le1 r → (r.1 = 0 → c1 = r.2) → mEnd h o ad I C Q (q_then r (fun c' => q_lp B (q_last B v) (fun e c =>
              if q_word B e = 0 then (if q_gp B e = false then (3, c) else if q_cond B e = true then q_then (q_cnt c 1) (fun c => q_flt B k true (q_val B e) c) else q_cnt c 2)
              else if q_join B e = false then (1, c) else if B e ≠ 4 ∨ q_sz B (q_val B e) = 5 then (2, c) else q_then (q_cnt c 1) (fun c => q_lp B (q_last B (q_val B e)) (fun i c => if B i = 3 then q_flt B k false (q_val B i) c else (2, c)) 2001 (q_val B e + 4) c)) f (q_next B e) c')) → mm_Go E d 127 (mm_blk 127 3) [.ref o, .int (nI (b + v)), .int (nI (b + e))] [] (mH h o ad (mI I c1 r.1) C) Q := by
            intro r c1 hr1 hr2 hq
            unfold q_then at hq
            repeat (first | refine gi_con ?_ | refine gi_bip (Nat.le_of_ble_eq_true rfl) ?_ | refine gi_sip (Nat.le_of_ble_eq_true rfl) ?_ | refine gi_ldc ?_ | refine gi_add ?_ | refine gi_inc rfl ?_ | refine gi_sub (by omega) ?_ | refine gi_mul ?_ | refine go_nx rfl ?_)
            refine go_step ?_
            refine g_callV (by decide) (by decide) (Nat.le_of_ble_eq_true rfl) (Nat.le_of_ble_eq_true rfl) mH_rcv (by omega) (Nat.le_of_ble_eq_true rfl) rfl ?_
            refine sp_mnext (by omega) (hm _) hw hok ?_
            repeat (first | refine gi_con ?_ | refine gi_bip (Nat.le_of_ble_eq_true rfl) ?_ | refine gi_sip (Nat.le_of_ble_eq_true rfl) ?_ | refine gi_ldc ?_ | refine gi_add ?_ | refine gi_inc rfl ?_ | refine gi_sub (by omega) ?_ | refine gi_mul ?_ | refine go_nx rfl ?_)
            refine go_jp rfl ?_
            by_cases h0 : r.1 = 0
            · rw [if_pos h0] at hq
              rw [h0, hr2 h0]
              exact ihf (q_next B e) (idx + 1) r.2 (by omega) hele.2.2.2.2 (hr1.2 h0) hq
            · rw [if_neg h0] at hq
              exact gone r.1 c1 _ (by omega) (by have := hr1.1; omega) hnx (hq c1 hr2)
          repeat (first | refine gi_con ?_ | refine gi_bip (Nat.le_of_ble_eq_true rfl) ?_ | refine gi_sip (Nat.le_of_ble_eq_true rfl) ?_ | refine gi_ldc ?_ | refine gi_add ?_ | refine gi_inc rfl ?_ | refine gi_sub (by omega) ?_ | refine gi_mul ?_ | refine go_nx rfl ?_)
          refine go_step ?_
          refine g_callV (by decide) (by decide) (Nat.le_of_ble_eq_true rfl) (Nat.le_of_ble_eq_true rfl) mH_rcv (by omega) (Nat.le_of_ble_eq_true rfl) rfl ?_
          rw [Nat.add_assoc]
          refine sp_mat2 (hm _) hw (by omega) ?_
          repeat (first | refine gi_con ?_ | refine gi_bip (Nat.le_of_ble_eq_true rfl) ?_ | refine gi_sip (Nat.le_of_ble_eq_true rfl) ?_ | refine gi_ldc ?_ | refine gi_add ?_ | refine gi_inc rfl ?_ | refine gi_sub (by omega) ?_ | refine gi_mul ?_ | refine go_nx rfl ?_)
          first | refine gb_lt (by omega) (by omega) (fun c4 => ?_) (fun c4 => ?_) | refine gb_ge (by omega) (by omega) (fun c4 => ?_) (fun c4 => ?_) | refine gb_gt (by omega) (by omega) (fun c4 => ?_) (fun c4 => ?_) | refine gb_le (by omega) (by omega) (fun c4 => ?_) (fun c4 => ?_) | refine gb_eq (by omega) (by omega) (fun c4 => ?_) (fun c4 => ?_) | refine gb_ne (by omega) (by omega) (fun c4 => ?_) (fun c4 => ?_)
          · rw [if_pos ((q_word_0 hw.2.2 (by omega)).mpr c4)] at hq
            repeat (first | refine gi_con ?_ | refine gi_bip (Nat.le_of_ble_eq_true rfl) ?_ | refine gi_sip (Nat.le_of_ble_eq_true rfl) ?_ | refine gi_ldc ?_ | refine gi_add ?_ | refine gi_inc rfl ?_ | refine gi_sub (by omega) ?_ | refine gi_mul ?_ | refine go_nx rfl ?_)
            refine go_step ?_
            refine g_callV (by decide) (by decide) (Nat.le_of_ble_eq_true rfl) (Nat.le_of_ble_eq_true rfl) mH_rcv (by omega) (Nat.le_of_ble_eq_true rfl) rfl ?_
            refine sp_mlookPath (X := fun c => q_flt B k true (q_val B e) c) (by omega) hD hC hR hw hok c4 hele.2.2.1 hc (fun hcd c1 Q' hc1 hq' => ?_) (fun c1 hc1 => ?_)
            · have hk3 : B e = 3 := by
                unfold q_cond at hcd
                simp only [Bool.and_eq_true, decide_eq_true_eq] at hcd
                exact hcd.1
              exact ih.2 (d - 1 - 1) (q_val B e) (q_last B v) (lev - 1) c1 Q' (by omega) (by omega) ((q_at_box hele.2.1).1 hk3) (by omega) hc1 hq'
            · repeat (first | refine gi_con ?_ | refine gi_bip (Nat.le_of_ble_eq_true rfl) ?_ | refine gi_sip (Nat.le_of_ble_eq_true rfl) ?_ | refine gi_ldc ?_ | refine gi_add ?_ | refine gi_inc rfl ?_ | refine gi_sub (by omega) ?_ | refine gi_mul ?_ | refine go_nx rfl ?_)
              refine go_jp rfl ?_
              refine three _ c1 ?_ hc1 hq
              split
              · exact q_le_f (by omega)
              · split
                · exact q_le_then q_le_cnt (fun c hc => q_flt_le _ _ _ _ _ hc)
                · exact q_le_cnt
          · have hwd : ¬ q_word B e = 0 := fun q => (q_word_0 hw.2.2 (by omega)).mp q c4
            rw [if_neg hwd] at hq
            repeat (first | refine gi_con ?_ | refine gi_bip (Nat.le_of_ble_eq_true rfl) ?_ | refine gi_sip (Nat.le_of_ble_eq_true rfl) ?_ | refine gi_ldc ?_ | refine gi_add ?_ | refine gi_inc rfl ?_ | refine gi_sub (by omega) ?_ | refine gi_mul ?_ | refine go_nx rfl ?_)
            refine go_step ?_
            refine g_callV (by decide) (by decide) (Nat.le_of_ble_eq_true rfl) (Nat.le_of_ble_eq_true rfl) mH_rcv (by omega) (Nat.le_of_ble_eq_true rfl) rfl ?_
            refine sp_mlookJoin (X := fun i c => q_flt B k false (q_val B i) c) (lev := lev - 1) (last := q_last B v) (by omega) hD hC hR hw hok (by omega) (q_at_box hele.2.1).2 hc (fun i c hc => q_flt_le _ _ _ _ _ hc) (fun i c1 Q' hbi hoki hbx hlq hc1 hq' => ?_) (fun c1 hc1 => ?_)
            · obtain ⟨l2, hl2, hbx⟩ := hbx
              exact ih.1 (d - 1 - 1) (q_val B i) (q_last B (q_val B e)) (l2 + 1) c1 Q' (by omega) (by omega) hbx hlq hc1 hq'
            · repeat (first | refine gi_con ?_ | refine gi_bip (Nat.le_of_ble_eq_true rfl) ?_ | refine gi_sip (Nat.le_of_ble_eq_true rfl) ?_ | refine gi_ldc ?_ | refine gi_add ?_ | refine gi_inc rfl ?_ | refine gi_sub (by omega) ?_ | refine gi_mul ?_ | refine go_nx rfl ?_)
              refine go_jp rfl ?_
              refine three _ c1 ?_ hc1 hq
              split
              · exact q_le_f (by omega)
              · split
                · exact q_le_f (by omega)
                · refine q_le_then q_le_cnt (fun c hc => q_le_lp (fun i c hc => ?_) _ _ _ hc)
                  split
                  · exact q_flt_le _ _ _ _ _ hc
                  · exact q_le_f (by omega)
      repeat (first | refine gi_con ?_ | refine gi_bip (Nat.le_of_ble_eq_true rfl) ?_ | refine gi_sip (Nat.le_of_ble_eq_true rfl) ?_ | refine gi_ldc ?_ | refine gi_add ?_ | refine gi_inc rfl ?_ | refine gi_sub (by omega) ?_ | refine gi_mul ?_ | refine go_nx rfl ?_)
      refine go_jp rfl ?_
      rw [Nat.add_assoc]
      exact loop 2001 (v + 4) 0 c (by omega) g4 hc hq
    · intro d v stop lev c Q hd hl hb hst hc hq
      have hlev : lev = lev - 1 + 1 := by have := q_box_pos hb; omega
      rw [hlev] at hb
      obtain ⟨g1, g2, g3, g4⟩ := q_box_at hb
      have hlastn : q_last B v < n := by unfold q_last; omega
      unfold q_flt at hq
      have gone : ∀ (f c1 e : Nat) (x3 x4 x5 x6 : Value), 0 < f → f < 100 → e ≤ q_last B v → Q none (mH h o ad (mI I c1 f) C) → mm_Go E d 136 (mm_blk 136 1) [.ref o, .int (nI (b + v)), .int (nI (b + e)), x3, x4, x5, x6] [] (mH h o ad (mI I c1 f) C) Q := by
        intro f c1 e x3 x4 x5 x6 h1 h2 h3 hq
        repeat (first | refine gi_con ?_ | refine gi_bip (Nat.le_of_ble_eq_true rfl) ?_ | refine gi_sip (Nat.le_of_ble_eq_true rfl) ?_ | refine gi_ldc ?_ | refine gi_add ?_ | refine gi_inc rfl ?_ | refine gi_sub (by omega) ?_ | refine gi_mul ?_ | refine go_nx rfl ?_)
        refine go_step ?_
        refine g_callV (by decide) (by decide) (Nat.le_of_ble_eq_true rfl) (Nat.le_of_ble_eq_true rfl) mH_rcv (by omega) (Nat.le_of_ble_eq_true rfl) rfl ?_
        refine sp_mlast (by omega) (hm _) hw (by omega) (by omega) ?_
        repeat (first | refine gi_con ?_ | refine gi_bip (Nat.le_of_ble_eq_true rfl) ?_ | refine gi_sip (Nat.le_of_ble_eq_true rfl) ?_ | refine gi_ldc ?_ | refine gi_add ?_ | refine gi_inc rfl ?_ | refine gi_sub (by omega) ?_ | refine gi_mul ?_ | refine go_nx rfl ?_)
        first | refine gb_lt (by omega) (by omega) (fun c2 => ?_) (fun c2 => ?_) | refine gb_ge (by omega) (by omega) (fun c2 => ?_) (fun c2 => ?_) | refine gb_gt (by omega) (by omega) (fun c2 => ?_) (fun c2 => ?_) | refine gb_le (by omega) (by omega) (fun c2 => ?_) (fun c2 => ?_) | refine gb_eq (by omega) (by omega) (fun c2 => ?_) (fun c2 => ?_) | refine gb_ne (by omega) (by omega) (fun c2 => ?_) (fun c2 => ?_)
        · refine go_rt rfl ?_
          exact hq
        repeat (first | refine gi_con ?_ | refine gi_bip (Nat.le_of_ble_eq_true rfl) ?_ | refine gi_sip (Nat.le_of_ble_eq_true rfl) ?_ | refine gi_ldc ?_ | refine gi_add ?_ | refine gi_inc rfl ?_ | refine gi_sub (by omega) ?_ | refine gi_mul ?_ | refine go_nx rfl ?_)
        refine gm_get (.int (nI f)) rfl rfl ?_
        first | refine gz_eq (by omega) (fun c3 => ?_) (fun c3 => ?_) | refine gz_ne (by omega) (fun c3 => ?_) (fun c3 => ?_) | refine gz_le (by omega) (fun c3 => ?_) (fun c3 => ?_) | refine gz_gt (by omega) (fun c3 => ?_) (fun c3 => ?_) | refine gz_lt (by omega) (fun c3 => ?_) (fun c3 => ?_) | refine gz_ge (by omega) (fun c3 => ?_) (fun c3 => ?_)
        · refine go_rt rfl ?_
          exact hq
        · omega
      have loop : ∀ (f e idx c : Nat) (x3 x4 x5 x6 : Value), q_last B v < f + e → q_at (q_u8 B) (lev - 1) B false (q_last B v) e idx → c ≤ 100 → mEnd h o ad I C Q (q_lp B (q_last B v) (fun e c =>
          if q_nof (q_word B e) = 0 then (1, c) else if q_good B e (q_word B e) = false then (4, c) else q_then (q_cnt c 1) (fun c => if q_word B e = 16 then q_flt B k true (q_val B e) c else if q_word B e = 15 then (if q_ofi B e = true then q_flt B k true (q_val B e) c else q_flt B k false (q_val B e) c) else (0, c))) f e c) → mm_Go E d 136 (mm_blk 136 1) [.ref o, .int (nI (b + v)), .int (nI (b + e)), x3, x4, x5, x6] [] (mH h o ad (mI I c 0) C) Q := by
        intro f
        induction f with
        | zero =>
          intro e idx c x3 x4 x5 x6 hf hat
          have := q_at_le hat
          omega
        | succ f ihf =>
          intro e idx c x3 x4 x5 x6 hf hat hc hq
          have hel := q_at_le hat
          unfold q_lp at hq
          repeat (first | refine gi_con ?_ | refine gi_bip (Nat.le_of_ble_eq_true rfl) ?_ | refine gi_sip (Nat.le_of_ble_eq_true rfl) ?_ | refine gi_ldc ?_ | refine gi_add ?_ | refine gi_inc rfl ?_ | refine gi_sub (by omega) ?_ | refine gi_mul ?_ | refine go_nx rfl ?_)
          refine go_step ?_
          refine g_callV (by decide) (by decide) (Nat.le_of_ble_eq_true rfl) (Nat.le_of_ble_eq_true rfl) mH_rcv (by omega) (Nat.le_of_ble_eq_true rfl) rfl ?_
          refine sp_mlast (by omega) (hm _) hw (by omega) (by omega) ?_
          repeat (first | refine gi_con ?_ | refine gi_bip (Nat.le_of_ble_eq_true rfl) ?_ | refine gi_sip (Nat.le_of_ble_eq_true rfl) ?_ | refine gi_ldc ?_ | refine gi_add ?_ | refine gi_inc rfl ?_ | refine gi_sub (by omega) ?_ | refine gi_mul ?_ | refine go_nx rfl ?_)
          first | refine gb_lt (by omega) (by omega) (fun c2 => ?_) (fun c2 => ?_) | refine gb_ge (by omega) (by omega) (fun c2 => ?_) (fun c2 => ?_) | refine gb_gt (by omega) (by omega) (fun c2 => ?_) (fun c2 => ?_) | refine gb_le (by omega) (by omega) (fun c2 => ?_) (fun c2 => ?_) | refine gb_eq (by omega) (by omega) (fun c2 => ?_) (fun c2 => ?_) | refine gb_ne (by omega) (by omega) (fun c2 => ?_) (fun c2 => ?_)
          · rw [if_neg (by omega)] at hq
            refine go_rt rfl ?_
            exact hq c (fun _ => rfl)
          repeat (first | refine gi_con ?_ | refine gi_bip (Nat.le_of_ble_eq_true rfl) ?_ | refine gi_sip (Nat.le_of_ble_eq_true rfl) ?_ | refine gi_ldc ?_ | refine gi_add ?_ | refine gi_inc rfl ?_ | refine gi_sub (by omega) ?_ | refine gi_mul ?_ | refine go_nx rfl ?_)
          refine gm_get (.int (nI 0)) rfl rfl ?_
          first | refine gz_eq (by omega) (fun c3 => ?_) (fun c3 => ?_) | refine gz_ne (by omega) (fun c3 => ?_) (fun c3 => ?_) | refine gz_le (by omega) (fun c3 => ?_) (fun c3 => ?_) | refine gz_gt (by omega) (fun c3 => ?_) (fun c3 => ?_) | refine gz_lt (by omega) (fun c3 => ?_) (fun c3 => ?_) | refine gz_ge (by omega) (fun c3 => ?_) (fun c3 => ?_)
          · omega
          have hlt : e < q_last B v := by omega
          rw [if_pos hlt] at hq
          have hele := q_at_el hat hlt
          have hok := q_at_ok (n := n) hat hlt (by omega)
          have hnx : q_next B e ≤ q_last B v := q_at_le hele.2.2.2.2
          obtain ⟨i1, i2, i3⟩ := q_ok_in hw.2.2 hok
          have hBe := hw.2.2.2.1 e
          obtain ⟨m2, m12, m9, m10, m7, m8, m13⟩ := q_nof_iff (q_word B e)
          have hbx := q_at_box hele.2.1
          have hbox3 : ∀ (hk3 : B e = 3) (m : Bool) (c1 : Nat) (Q' : Option Value → mmH → Prop), c1 ≤ 100 → mEnd h o ad I C Q' (q_flt B k m (q_val B e) c1) → (m = true → mm_Go E (d - 1) 136 (mm_blk 136 0) [.ref o, .int (nI (b + q_val B e)), mm_un, mm_un, mm_un, mm_un, mm_un] [] (mH h o ad (mI I c1 0) C) Q') ∧ (m = false → mm_Go E (d - 1) 127 (mm_blk 127 0) [.ref o, .int (nI (b + q_val B e)), mm_un] [] (mH h o ad (mI I c1 0) C) Q') := by
            intro hk3 m c1 Q' hc1 hq'
            refine ⟨fun hm1 => ?_, fun hm1 => ?_⟩
            · subst hm1
              exact ih.2 (d - 1) (q_val B e) (q_last B v) (lev - 1) c1 Q' (by omega) (by omega) (hbx.1 hk3) (by omega) hc1 hq'
            · subst hm1
              exact ih.1 (d - 1) (q_val B e) (q_last B v) (lev - 1) c1 Q' (by omega) (by omega) (hbx.1 hk3) (by omega) hc1 hq'
          have nineteen : ∀ (r : Nat × Nat) (c1 : Nat) (good : Bool), q_le1 r → (r.1 = 0 → c1 = r.2) → (if q_nof (q_word B e) = 0 then (1, c) else if q_good B e (q_word B e) = false then (4, c) else q_then (q_cnt c 1) (fun c => if q_word B e = 16 then q_flt B k true (q_val B e) c else if q_word B e = 15 then (if q_ofi B e = true then q_flt B k true (q_val B e) c else q_flt B k false (q_val B e) c) else (0, c))) = r → mm_Go E d 136 (mm_blk 136 19) [.ref o, .int (nI (b + v)), .int (nI (b + e)), .int (nI (q_nof (q_word B e))), .int (nI (b + q_val B e)), .int (nI (B e)), .int (q_t good)] [] (mH h o ad (mI I c1 r.1) C) Q := by
            intro r c1 good hr1 hr2 hr3
            rw [hr3] at hq
            unfold q_then at hq
            repeat (first | refine gi_con ?_ | refine gi_bip (Nat.le_of_ble_eq_true rfl) ?_ | refine gi_sip (Nat.le_of_ble_eq_true rfl) ?_ | refine gi_ldc ?_ | refine gi_add ?_ | refine gi_inc rfl ?_ | refine gi_sub (by omega) ?_ | refine gi_mul ?_ | refine go_nx rfl ?_)
            refine go_step ?_
            refine g_callV (by decide) (by decide) (Nat.le_of_ble_eq_true rfl) (Nat.le_of_ble_eq_true rfl) mH_rcv (by omega) (Nat.le_of_ble_eq_true rfl) rfl ?_
            refine sp_mnext (by omega) (hm _) hw hok ?_
            repeat (first | refine gi_con ?_ | refine gi_bip (Nat.le_of_ble_eq_true rfl) ?_ | refine gi_sip (Nat.le_of_ble_eq_true rfl) ?_ | refine gi_ldc ?_ | refine gi_add ?_ | refine gi_inc rfl ?_ | refine gi_sub (by omega) ?_ | refine gi_mul ?_ | refine go_nx rfl ?_)
            refine go_jp rfl ?_
            by_cases h0 : r.1 = 0
            · rw [if_pos h0] at hq
              rw [h0, hr2 h0]
              exact ihf (q_next B e) (idx + 1) r.2 _ _ _ _ (by omega) hele.2.2.2.2 (hr1.2 h0) hq
            · rw [if_neg h0] at hq
              exact gone r.1 c1 _ _ _ _ _ (by omega) (by have := hr1.1; omega) hnx (hq c1 hr2)
          have seventeen : ∀ (r : Nat × Nat) (c1 : Nat) (good : Bool), q_le1 r → (r.1 = 0 → c1 = r.2) → (q_word B e = 15 → r.1 ≠ 0) → (if q_nof (q_word B e) = 0 then (1, c) else if q_good B e (q_word B e) = false then (4, c) else q_then (q_cnt c 1) (fun c => if q_word B e = 16 then q_flt B k true (q_val B e) c else if q_word B e = 15 then (if q_ofi B e = true then q_flt B k true (q_val B e) c else q_flt B k false (q_val B e) c) else (0, c))) = r → mm_Go E d 136 (mm_blk 136 17) [.ref o, .int (nI (b + v)), .int (nI (b + e)), .int (nI (q_nof (q_word B e))), .int (nI (b + q_val B e)), .int (nI (B e)), .int (q_t good)] [] (mH h o ad (mI I c1 r.1) C) Q := by
            intro r c1 good hr1 hr2 h15 hr3
            have h5 := hr1.1
            repeat (first | refine gi_con ?_ | refine gi_bip (Nat.le_of_ble_eq_true rfl) ?_ | refine gi_sip (Nat.le_of_ble_eq_true rfl) ?_ | refine gi_ldc ?_ | refine gi_add ?_ | refine gi_inc rfl ?_ | refine gi_sub (by omega) ?_ | refine gi_mul ?_ | refine go_nx rfl ?_)
            refine gm_get (.int (nI r.1)) rfl rfl ?_
            first | refine gz_eq (by omega) (fun c4 => ?_) (fun c4 => ?_) | refine gz_ne (by omega) (fun c4 => ?_) (fun c4 => ?_) | refine gz_le (by omega) (fun c4 => ?_) (fun c4 => ?_) | refine gz_gt (by omega) (fun c4 => ?_) (fun c4 => ?_) | refine gz_lt (by omega) (fun c4 => ?_) (fun c4 => ?_) | refine gz_ge (by omega) (fun c4 => ?_) (fun c4 => ?_)
            · exact nineteen r c1 good hr1 hr2 hr3
            repeat (first | refine gi_con ?_ | refine gi_bip (Nat.le_of_ble_eq_true rfl) ?_ | refine gi_sip (Nat.le_of_ble_eq_true rfl) ?_ | refine gi_ldc ?_ | refine gi_add ?_ | refine gi_inc rfl ?_ | refine gi_sub (by omega) ?_ | refine gi_mul ?_ | refine go_nx rfl ?_)
            first | refine gb_lt (by omega) (by omega) (fun c5 => ?_) (fun c5 => ?_) | refine gb_ge (by omega) (by omega) (fun c5 => ?_) (fun c5 => ?_) | refine gb_gt (by omega) (by omega) (fun c5 => ?_) (fun c5 => ?_) | refine gb_le (by omega) (by omega) (fun c5 => ?_) (fun c5 => ?_) | refine gb_eq (by omega) (by omega) (fun c5 => ?_) (fun c5 => ?_) | refine gb_ne (by omega) (by omega) (fun c5 => ?_) (fun c5 => ?_)
            · exact nineteen r c1 good hr1 hr2 hr3
            · exact absurd c4 (h15 (m7.mp c5))
          have sixteen : ∀ (f0 : Nat) (good : Bool), (f0 = 1 ∧ q_nof (q_word B e) = 0 ∨ f0 = 4 ∧ q_nof (q_word B e) ≠ 0 ∧ q_good B e (q_word B e) = false ∨ f0 = 0 ∧ q_nof (q_word B e) ≠ 0 ∧ q_good B e (q_word B e) = true) → mm_Go E d 136 (mm_blk 136 16) [.ref o, .int (nI (b + v)), .int (nI (b + e)), .int (nI (q_nof (q_word B e))), .int (nI (b + q_val B e)), .int (nI (B e)), .int (q_t good)] [] (mH h o ad (mI I c f0) C) Q := by
            intro f0 good hf0
            repeat (first | refine gi_con ?_ | refine gi_bip (Nat.le_of_ble_eq_true rfl) ?_ | refine gi_sip (Nat.le_of_ble_eq_true rfl) ?_ | refine gi_ldc ?_ | refine gi_add ?_ | refine gi_inc rfl ?_ | refine gi_sub (by omega) ?_ | refine gi_mul ?_ | refine go_nx rfl ?_)
            refine go_step ?_
            refine g_callV (by decide) (by decide) (Nat.le_of_ble_eq_true rfl) (Nat.le_of_ble_eq_true rfl) mH_rcv (by omega) (Nat.le_of_ble_eq_true rfl) rfl ?_
            refine sp_mcounts (by omega) (by omega) (by omega) (by omega) ?_
            repeat (first | refine gi_con ?_ | refine gi_bip (Nat.le_of_ble_eq_true rfl) ?_ | refine gi_sip (Nat.le_of_ble_eq_true rfl) ?_ | refine gi_ldc ?_ | refine gi_add ?_ | refine gi_inc rfl ?_ | refine gi_sub (by omega) ?_ | refine gi_mul ?_ | refine go_nx rfl ?_)
            refine gm_get (.int (nI (if 100 < c + 1 then (if f0 = 0 then 5 else f0) else f0))) rfl rfl ?_
            have hfin : 0 < (if 100 < c + 1 then (if f0 = 0 then 5 else f0) else f0) → mm_Go E d 136 (mm_blk 136 17) [.ref o, .int (nI (b + v)), .int (nI (b + e)), .int (nI (q_nof (q_word B e))), .int (nI (b + q_val B e)), .int (nI (B e)), .int (q_t good)] [] (mH h o ad (mI I (c + 1) (if 100 < c + 1 then (if f0 = 0 then 5 else f0) else f0)) C) Q := by
              intro hpos
              rcases hf0 with ⟨z1, z2⟩ | ⟨z1, z2, z3⟩ | ⟨z1, z2, z3⟩
              · have : (if 100 < c + 1 then (if f0 = 0 then 5 else f0) else f0) = 1 := by
                  rw [z1]
                  split <;> rfl
                rw [this]
                exact seventeen (1, c) (c + 1) good (q_le_f (by omega)) (fun q => by cases q) (fun _ q => by cases q) (if_pos z2)
              · have : (if 100 < c + 1 then (if f0 = 0 then 5 else f0) else f0) = 4 := by
                  rw [z1]
                  split <;> rfl
                rw [this]
                exact seventeen (4, c) (c + 1) good (q_le_f (by omega)) (fun q => by cases q) (fun _ q => by cases q) (by rw [if_neg z2, if_pos z3])
              · subst z1
                by_cases h4 : 100 < c + 1
                · rw [if_pos h4, if_pos rfl]
                  refine seventeen (5, c + 1) (c + 1) good (q_le_f (by omega)) (fun q => by cases q) (fun _ q => by cases q) ?_
                  rw [if_neg z2, z3, if_neg (by decide)]
                  unfold q_then q_cnt
                  rw [if_pos h4, if_neg (show ¬ (5 : Nat) = 0 by decide)]
                · rw [if_neg h4] at hpos
                  omega
            have hfb : (if 100 < c + 1 then (if f0 = 0 then 5 else f0) else f0) < 100 := by
              split
              · split <;> omega
              · omega
            first | refine gz_eq (by omega) (fun c4 => ?_) (fun c4 => ?_) | refine gz_ne (by omega) (fun c4 => ?_) (fun c4 => ?_) | refine gz_le (by omega) (fun c4 => ?_) (fun c4 => ?_) | refine gz_gt (by omega) (fun c4 => ?_) (fun c4 => ?_) | refine gz_lt (by omega) (fun c4 => ?_) (fun c4 => ?_) | refine gz_ge (by omega) (fun c4 => ?_) (fun c4 => ?_)
            · exact hfin c4
            have hf00 : f0 = 0 ∧ ¬ 100 < c + 1 := by
              by_cases h4 : 100 < c + 1
              · rw [if_pos h4] at c4
                split at c4 <;> omega
              · rw [if_neg h4] at c4
                exact ⟨c4, h4⟩
            obtain ⟨-, z2, z3⟩ := (hf0.resolve_left (by omega)).resolve_left (by omega)
            have hbase : (if q_nof (q_word B e) = 0 then (1, c) else if q_good B e (q_word B e) = false then (4, c) else q_then (q_cnt c 1) (fun c => if q_word B e = 16 then q_flt B k true (q_val B e) c else if q_word B e = 15 then (if q_ofi B e = true then q_flt B k true (q_val B e) c else q_flt B k false (q_val B e) c) else (0, c))) = if q_word B e = 16 then q_flt B k true (q_val B e) (c + 1) else if q_word B e = 15 then (if q_ofi B e = true then q_flt B k true (q_val B e) (c + 1) else q_flt B k false (q_val B e) (c + 1)) else (0, c + 1) := by
              rw [if_neg z2, z3, if_neg (by decide)]
              unfold q_then q_cnt
              rw [if_neg hf00.2, if_pos rfl]
            rw [c4]
            repeat (first | refine gi_con ?_ | refine gi_bip (Nat.le_of_ble_eq_true rfl) ?_ | refine gi_sip (Nat.le_of_ble_eq_true rfl) ?_ | refine gi_ldc ?_ | refine gi_add ?_ | refine gi_inc rfl ?_ | refine gi_sub (by omega) ?_ | refine gi_mul ?_ | refine go_nx rfl ?_)
            first | refine gb_lt (by omega) (by omega) (fun c5 => ?_) (fun c5 => ?_) | refine gb_ge (by omega) (by omega) (fun c5 => ?_) (fun c5 => ?_) | refine gb_gt (by omega) (by omega) (fun c5 => ?_) (fun c5 => ?_) | refine gb_le (by omega) (by omega) (fun c5 => ?_) (fun c5 => ?_) | refine gb_eq (by omega) (by omega) (fun c5 => ?_) (fun c5 => ?_) | refine gb_ne (by omega) (by omega) (fun c5 => ?_) (fun c5 => ?_)
            · have h16 : ¬ q_word B e = 16 := fun q => c5 (m8.mpr q)
              rw [if_neg h16] at hbase
              repeat (first | refine gi_con ?_ | refine gi_bip (Nat.le_of_ble_eq_true rfl) ?_ | refine gi_sip (Nat.le_of_ble_eq_true rfl) ?_ | refine gi_ldc ?_ | refine gi_add ?_ | refine gi_inc rfl ?_ | refine gi_sub (by omega) ?_ | refine gi_mul ?_ | refine go_nx rfl ?_)
              refine gm_get (.int (nI 0)) rfl rfl ?_
              first | refine gz_eq (by omega) (fun c6 => ?_) (fun c6 => ?_) | refine gz_ne (by omega) (fun c6 => ?_) (fun c6 => ?_) | refine gz_le (by omega) (fun c6 => ?_) (fun c6 => ?_) | refine gz_gt (by omega) (fun c6 => ?_) (fun c6 => ?_) | refine gz_lt (by omega) (fun c6 => ?_) (fun c6 => ?_) | refine gz_ge (by omega) (fun c6 => ?_) (fun c6 => ?_)
              · omega
              repeat (first | refine gi_con ?_ | refine gi_bip (Nat.le_of_ble_eq_true rfl) ?_ | refine gi_sip (Nat.le_of_ble_eq_true rfl) ?_ | refine gi_ldc ?_ | refine gi_add ?_ | refine gi_inc rfl ?_ | refine gi_sub (by omega) ?_ | refine gi_mul ?_ | refine go_nx rfl ?_)
              first | refine gb_lt (by omega) (by omega) (fun c7 => ?_) (fun c7 => ?_) | refine gb_ge (by omega) (by omega) (fun c7 => ?_) (fun c7 => ?_) | refine gb_gt (by omega) (by omega) (fun c7 => ?_) (fun c7 => ?_) | refine gb_le (by omega) (by omega) (fun c7 => ?_) (fun c7 => ?_) | refine gb_eq (by omega) (by omega) (fun c7 => ?_) (fun c7 => ?_) | refine gb_ne (by omega) (by omega) (fun c7 => ?_) (fun c7 => ?_)
              · have h15 : ¬ q_word B e = 15 := fun q => c7 (m7.mpr q)
                rw [if_neg h15] at hbase
                exact nineteen (0, c + 1) (c + 1) good (q_le_0 (by omega)) (fun _ => rfl) hbase
              have h15 : q_word B e = 15 := m7.mp c7
              rw [if_pos h15] at hbase
              have hk3 : B e = 3 := by
                unfold q_good at z3
                rw [h15, if_neg (by decide), if_neg (by decide), if_neg (by decide), if_pos rfl] at z3
                exact of_decide_eq_true z3
              repeat (first | refine gi_con ?_ | refine gi_bip (Nat.le_of_ble_eq_true rfl) ?_ | refine gi_sip (Nat.le_of_ble_eq_true rfl) ?_ | refine gi_ldc ?_ | refine gi_add ?_ | refine gi_inc rfl ?_ | refine gi_sub (by omega) ?_ | refine gi_mul ?_ | refine go_nx rfl ?_)
              refine go_step ?_
              refine g_callV (by decide) (by decide) (Nat.le_of_ble_eq_true rfl) (Nat.le_of_ble_eq_true rfl) mH_rcv (by omega) (Nat.le_of_ble_eq_true rfl) rfl ?_
              refine sp_misofi (lev := lev - 1) (last := q_last B v) (by omega) (hm _) hw hok (by omega) hbx.1 ?_
              repeat (first | refine gi_con ?_ | refine gi_bip (Nat.le_of_ble_eq_true rfl) ?_ | refine gi_sip (Nat.le_of_ble_eq_true rfl) ?_ | refine gi_ldc ?_ | refine gi_add ?_ | refine gi_inc rfl ?_ | refine gi_sub (by omega) ?_ | refine gi_mul ?_ | refine go_nx rfl ?_)
              first | refine gt_eq (fun c8 => ?_) (fun c8 => ?_) | refine gt_ne (fun c8 => ?_) (fun c8 => ?_)
              · have hbase := hbase.trans (if_neg (show ¬ q_ofi B e = true by rw [c8]; decide))
                repeat (first | refine gi_con ?_ | refine gi_bip (Nat.le_of_ble_eq_true rfl) ?_ | refine gi_sip (Nat.le_of_ble_eq_true rfl) ?_ | refine gi_ldc ?_ | refine gi_add ?_ | refine gi_inc rfl ?_ | refine gi_sub (by omega) ?_ | refine gi_mul ?_ | refine go_nx rfl ?_)
                refine go_step ?_
                refine g_callV (by decide) (by decide) (Nat.le_of_ble_eq_true rfl) (Nat.le_of_ble_eq_true rfl) mH_rcv (by omega) (Nat.le_of_ble_eq_true rfl) rfl ?_
                refine (hbox3 hk3 false (c + 1) _ (by omega) (fun c1 hc1 => ?_)).2 rfl
                repeat (first | refine gi_con ?_ | refine gi_bip (Nat.le_of_ble_eq_true rfl) ?_ | refine gi_sip (Nat.le_of_ble_eq_true rfl) ?_ | refine gi_ldc ?_ | refine gi_add ?_ | refine gi_inc rfl ?_ | refine gi_sub (by omega) ?_ | refine gi_mul ?_ | refine go_nx rfl ?_)
                refine go_jp rfl ?_
                exact nineteen _ c1 good (q_flt_le _ _ _ _ _ (by omega)) hc1 hbase
              · have hbase := hbase.trans (if_pos c8)
                repeat (first | refine gi_con ?_ | refine gi_bip (Nat.le_of_ble_eq_true rfl) ?_ | refine gi_sip (Nat.le_of_ble_eq_true rfl) ?_ | refine gi_ldc ?_ | refine gi_add ?_ | refine gi_inc rfl ?_ | refine gi_sub (by omega) ?_ | refine gi_mul ?_ | refine go_nx rfl ?_)
                refine go_step ?_
                refine g_callV (by decide) (by decide) (Nat.le_of_ble_eq_true rfl) (Nat.le_of_ble_eq_true rfl) mH_rcv (by omega) (Nat.le_of_ble_eq_true rfl) rfl ?_
                refine (hbox3 hk3 true (c + 1) _ (by omega) (fun c1 hc1 => ?_)).1 rfl
                repeat (first | refine gi_con ?_ | refine gi_bip (Nat.le_of_ble_eq_true rfl) ?_ | refine gi_sip (Nat.le_of_ble_eq_true rfl) ?_ | refine gi_ldc ?_ | refine gi_add ?_ | refine gi_inc rfl ?_ | refine gi_sub (by omega) ?_ | refine gi_mul ?_ | refine go_nx rfl ?_)
                refine go_jp rfl ?_
                exact nineteen _ c1 good (q_flt_le _ _ _ _ _ (by omega)) hc1 hbase
            · have h16 : q_word B e = 16 := m8.mp c5
              rw [if_pos h16] at hbase
              have hk3 : B e = 3 := by
                unfold q_good at z3
                rw [h16, if_neg (by decide), if_neg (by decide), if_neg (by decide), if_neg (by decide), if_pos rfl] at z3
                unfold q_cond at z3
                simp only [Bool.and_eq_true, decide_eq_true_eq] at z3
                exact z3.1
              repeat (first | refine gi_con ?_ | refine gi_bip (Nat.le_of_ble_eq_true rfl) ?_ | refine gi_sip (Nat.le_of_ble_eq_true rfl) ?_ | refine gi_ldc ?_ | refine gi_add ?_ | refine gi_inc rfl ?_ | refine gi_sub (by omega) ?_ | refine gi_mul ?_ | refine go_nx rfl ?_)
              refine go_step ?_
              refine g_callV (by decide) (by decide) (Nat.le_of_ble_eq_true rfl) (Nat.le_of_ble_eq_true rfl) mH_rcv (by omega) (Nat.le_of_ble_eq_true rfl) rfl ?_
              refine (hbox3 hk3 true (c + 1) _ (by omega) (fun c1 hc1 => ?_)).1 rfl
              repeat (first | refine gi_con ?_ | refine gi_bip (Nat.le_of_ble_eq_true rfl) ?_ | refine gi_sip (Nat.le_of_ble_eq_true rfl) ?_ | refine gi_ldc ?_ | refine gi_add ?_ | refine gi_inc rfl ?_ | refine gi_sub (by omega) ?_ | refine gi_mul ?_ | refine go_nx rfl ?_)
              refine go_jp rfl ?_
              exact seventeen _ c1 good (q_flt_le _ _ _ _ _ (by omega)) hc1 (fun q => by omega) hbase
          have fourteen : ∀ (x6 : Value) (good : Bool), (q_nof (q_word B e) ≠ 0 → good = q_good B e (q_word B e)) → mm_Go E d 136 (mm_blk 136 14) [.ref o, .int (nI (b + v)), .int (nI (b + e)), .int (nI (q_nof (q_word B e))), .int (nI (b + q_val B e)), .int (nI (B e)), x6] [.int (q_t good)] (mH h o ad (mI I c 0) C) Q := by
            intro x6 good hgood
            repeat (first | refine gi_con ?_ | refine gi_bip (Nat.le_of_ble_eq_true rfl) ?_ | refine gi_sip (Nat.le_of_ble_eq_true rfl) ?_ | refine gi_ldc ?_ | refine gi_add ?_ | refine gi_inc rfl ?_ | refine gi_sub (by omega) ?_ | refine gi_mul ?_ | refine go_nx rfl ?_)
            first | refine gz_eq (by omega) (fun c4 => ?_) (fun c4 => ?_) | refine gz_ne (by omega) (fun c4 => ?_) (fun c4 => ?_) | refine gz_le (by omega) (fun c4 => ?_) (fun c4 => ?_) | refine gz_gt (by omega) (fun c4 => ?_) (fun c4 => ?_) | refine gz_lt (by omega) (fun c4 => ?_) (fun c4 => ?_) | refine gz_ge (by omega) (fun c4 => ?_) (fun c4 => ?_)
            · repeat (first | refine gi_con ?_ | refine gi_bip (Nat.le_of_ble_eq_true rfl) ?_ | refine gi_sip (Nat.le_of_ble_eq_true rfl) ?_ | refine gi_ldc ?_ | refine gi_add ?_ | refine gi_inc rfl ?_ | refine gi_sub (by omega) ?_ | refine gi_mul ?_ | refine go_nx rfl ?_)
              first | refine gt_eq (fun c5 => ?_) (fun c5 => ?_) | refine gt_ne (fun c5 => ?_) (fun c5 => ?_)
              · exact sixteen 0 good (Or.inr (Or.inr ⟨rfl, by omega, by rw [← hgood (by omega)]; exact c5⟩))
              · repeat (first | refine gi_con ?_ | refine gi_bip (Nat.le_of_ble_eq_true rfl) ?_ | refine gi_sip (Nat.le_of_ble_eq_true rfl) ?_ | refine gi_ldc ?_ | refine gi_add ?_ | refine gi_inc rfl ?_ | refine gi_sub (by omega) ?_ | refine gi_mul ?_ | refine go_nx rfl ?_)
                refine go_step ?_
                refine g_callV (by decide) (by decide) (Nat.le_of_ble_eq_true rfl) (Nat.le_of_ble_eq_true rfl) mH_rcv (by omega) (Nat.le_of_ble_eq_true rfl) rfl ?_
                refine sp_mfails (by omega) ?_
                repeat (first | refine gi_con ?_ | refine gi_bip (Nat.le_of_ble_eq_true rfl) ?_ | refine gi_sip (Nat.le_of_ble_eq_true rfl) ?_ | refine gi_ldc ?_ | refine gi_add ?_ | refine gi_inc rfl ?_ | refine gi_sub (by omega) ?_ | refine gi_mul ?_ | refine go_nx rfl ?_)
                refine go_jp rfl ?_
                exact sixteen 4 good (Or.inr (Or.inl ⟨rfl, by omega, by rw [← hgood (by omega)]; exact c5⟩))
            · repeat (first | refine gi_con ?_ | refine gi_bip (Nat.le_of_ble_eq_true rfl) ?_ | refine gi_sip (Nat.le_of_ble_eq_true rfl) ?_ | refine gi_ldc ?_ | refine gi_add ?_ | refine gi_inc rfl ?_ | refine gi_sub (by omega) ?_ | refine gi_mul ?_ | refine go_nx rfl ?_)
              refine go_step ?_
              refine g_callV (by decide) (by decide) (Nat.le_of_ble_eq_true rfl) (Nat.le_of_ble_eq_true rfl) mH_rcv (by omega) (Nat.le_of_ble_eq_true rfl) rfl ?_
              refine sp_mfails (by omega) ?_
              repeat (first | refine gi_con ?_ | refine gi_bip (Nat.le_of_ble_eq_true rfl) ?_ | refine gi_sip (Nat.le_of_ble_eq_true rfl) ?_ | refine gi_ldc ?_ | refine gi_add ?_ | refine gi_inc rfl ?_ | refine gi_sub (by omega) ?_ | refine gi_mul ?_ | refine go_nx rfl ?_)
              refine go_jp rfl ?_
              exact sixteen 1 good (Or.inl ⟨rfl, c4⟩)
          repeat (first | refine gi_con ?_ | refine gi_bip (Nat.le_of_ble_eq_true rfl) ?_ | refine gi_sip (Nat.le_of_ble_eq_true rfl) ?_ | refine gi_ldc ?_ | refine gi_add ?_ | refine gi_inc rfl ?_ | refine gi_sub (by omega) ?_ | refine gi_mul ?_ | refine go_nx rfl ?_)
          refine go_step ?_
          refine g_callV (by decide) (by decide) (Nat.le_of_ble_eq_true rfl) (Nat.le_of_ble_eq_true rfl) mH_rcv (by omega) (Nat.le_of_ble_eq_true rfl) rfl ?_
          refine sp_mnumberOf (by omega) (hm _) hw hok.2.1 (by omega) ?_
          repeat (first | refine gi_con ?_ | refine gi_bip (Nat.le_of_ble_eq_true rfl) ?_ | refine gi_sip (Nat.le_of_ble_eq_true rfl) ?_ | refine gi_ldc ?_ | refine gi_add ?_ | refine gi_inc rfl ?_ | refine gi_sub (by omega) ?_ | refine gi_mul ?_ | refine go_nx rfl ?_)
          refine go_step ?_
          refine g_callV (by decide) (by decide) (Nat.le_of_ble_eq_true rfl) (Nat.le_of_ble_eq_true rfl) mH_rcv (by omega) (Nat.le_of_ble_eq_true rfl) rfl ?_
          refine sp_mval (by omega) (hm _) hw hok.2.1 ?_
          repeat (first | refine gi_con ?_ | refine gi_bip (Nat.le_of_ble_eq_true rfl) ?_ | refine gi_sip (Nat.le_of_ble_eq_true rfl) ?_ | refine gi_ldc ?_ | refine gi_add ?_ | refine gi_inc rfl ?_ | refine gi_sub (by omega) ?_ | refine gi_mul ?_ | refine go_nx rfl ?_)
          refine go_step ?_
          refine g_callV (by decide) (by decide) (Nat.le_of_ble_eq_true rfl) (Nat.le_of_ble_eq_true rfl) mH_rcv (by omega) (Nat.le_of_ble_eq_true rfl) rfl ?_
          refine sp_mat2 (hm _) hw hok.1 ?_
          unfold q_good at fourteen
          have two : (q_word B e = 7 ∨ q_word B e = 8) → mm_Go E d 136 (mm_blk 136 2) [.ref o, .int (nI (b + v)), .int (nI (b + e)), .int (nI (q_nof (q_word B e))), .int (nI (b + q_val B e)), .int (nI (B e)), x6] [] (mH h o ad (mI I c 0) C) Q := by
            intro hk
            rw [if_pos hk] at fourteen
            repeat (first | refine gi_con ?_ | refine gi_bip (Nat.le_of_ble_eq_true rfl) ?_ | refine gi_sip (Nat.le_of_ble_eq_true rfl) ?_ | refine gi_ldc ?_ | refine gi_add ?_ | refine gi_inc rfl ?_ | refine gi_sub (by omega) ?_ | refine gi_mul ?_ | refine go_nx rfl ?_)
            first | refine gb_lt (by omega) (by omega) (fun c6 => ?_) (fun c6 => ?_) | refine gb_ge (by omega) (by omega) (fun c6 => ?_) (fun c6 => ?_) | refine gb_gt (by omega) (by omega) (fun c6 => ?_) (fun c6 => ?_) | refine gb_le (by omega) (by omega) (fun c6 => ?_) (fun c6 => ?_) | refine gb_eq (by omega) (by omega) (fun c6 => ?_) (fun c6 => ?_) | refine gb_ne (by omega) (by omega) (fun c6 => ?_) (fun c6 => ?_)
            · repeat (first | refine gi_con ?_ | refine gi_bip (Nat.le_of_ble_eq_true rfl) ?_ | refine gi_sip (Nat.le_of_ble_eq_true rfl) ?_ | refine gi_ldc ?_ | refine gi_add ?_ | refine gi_inc rfl ?_ | refine gi_sub (by omega) ?_ | refine gi_mul ?_ | refine go_nx rfl ?_)
              refine go_jp rfl ?_
              exact fourteen _ false (fun _ => (decide_eq_false c6).symm)
            · repeat (first | refine gi_con ?_ | refine gi_bip (Nat.le_of_ble_eq_true rfl) ?_ | refine gi_sip (Nat.le_of_ble_eq_true rfl) ?_ | refine gi_ldc ?_ | refine gi_add ?_ | refine gi_inc rfl ?_ | refine gi_sub (by omega) ?_ | refine gi_mul ?_ | refine go_nx rfl ?_)
              refine go_jp rfl ?_
              exact fourteen _ true (fun _ => (decide_eq_true c6).symm)
          repeat (first | refine gi_con ?_ | refine gi_bip (Nat.le_of_ble_eq_true rfl) ?_ | refine gi_sip (Nat.le_of_ble_eq_true rfl) ?_ | refine gi_ldc ?_ | refine gi_add ?_ | refine gi_inc rfl ?_ | refine gi_sub (by omega) ?_ | refine gi_mul ?_ | refine go_nx rfl ?_)
          first | refine gb_lt (by omega) (by omega) (fun c4 => ?_) (fun c4 => ?_) | refine gb_ge (by omega) (by omega) (fun c4 => ?_) (fun c4 => ?_) | refine gb_gt (by omega) (by omega) (fun c4 => ?_) (fun c4 => ?_) | refine gb_le (by omega) (by omega) (fun c4 => ?_) (fun c4 => ?_) | refine gb_eq (by omega) (by omega) (fun c4 => ?_) (fun c4 => ?_) | refine gb_ne (by omega) (by omega) (fun c4 => ?_) (fun c4 => ?_)
          · exact two (Or.inl (m2.mp c4))
          repeat (first | refine gi_con ?_ | refine gi_bip (Nat.le_of_ble_eq_true rfl) ?_ | refine gi_sip (Nat.le_of_ble_eq_true rfl) ?_ | refine gi_ldc ?_ | refine gi_add ?_ | refine gi_inc rfl ?_ | refine gi_sub (by omega) ?_ | refine gi_mul ?_ | refine go_nx rfl ?_)
          first | refine gb_lt (by omega) (by omega) (fun c5 => ?_) (fun c5 => ?_) | refine gb_ge (by omega) (by omega) (fun c5 => ?_) (fun c5 => ?_) | refine gb_gt (by omega) (by omega) (fun c5 => ?_) (fun c5 => ?_) | refine gb_le (by omega) (by omega) (fun c5 => ?_) (fun c5 => ?_) | refine gb_eq (by omega) (by omega) (fun c5 => ?_) (fun c5 => ?_) | refine gb_ne (by omega) (by omega) (fun c5 => ?_) (fun c5 => ?_)
          · rw [if_neg (fun q => q.elim (fun q => c4 (m2.mpr q)) (fun q => c5 (m12.mpr q)))] at fourteen
            repeat (first | refine gi_con ?_ | refine gi_bip (Nat.le_of_ble_eq_true rfl) ?_ | refine gi_sip (Nat.le_of_ble_eq_true rfl) ?_ | refine gi_ldc ?_ | refine gi_add ?_ | refine gi_inc rfl ?_ | refine gi_sub (by omega) ?_ | refine gi_mul ?_ | refine go_nx rfl ?_)
            first | refine gb_lt (by omega) (by omega) (fun c6 => ?_) (fun c6 => ?_) | refine gb_ge (by omega) (by omega) (fun c6 => ?_) (fun c6 => ?_) | refine gb_gt (by omega) (by omega) (fun c6 => ?_) (fun c6 => ?_) | refine gb_le (by omega) (by omega) (fun c6 => ?_) (fun c6 => ?_) | refine gb_eq (by omega) (by omega) (fun c6 => ?_) (fun c6 => ?_) | refine gb_ne (by omega) (by omega) (fun c6 => ?_) (fun c6 => ?_)
            · rw [if_neg (fun q => c6 (m9.mpr q))] at fourteen
              repeat (first | refine gi_con ?_ | refine gi_bip (Nat.le_of_ble_eq_true rfl) ?_ | refine gi_sip (Nat.le_of_ble_eq_true rfl) ?_ | refine gi_ldc ?_ | refine gi_add ?_ | refine gi_inc rfl ?_ | refine gi_sub (by omega) ?_ | refine gi_mul ?_ | refine go_nx rfl ?_)
              first | refine gb_lt (by omega) (by omega) (fun c7 => ?_) (fun c7 => ?_) | refine gb_ge (by omega) (by omega) (fun c7 => ?_) (fun c7 => ?_) | refine gb_gt (by omega) (by omega) (fun c7 => ?_) (fun c7 => ?_) | refine gb_le (by omega) (by omega) (fun c7 => ?_) (fun c7 => ?_) | refine gb_eq (by omega) (by omega) (fun c7 => ?_) (fun c7 => ?_) | refine gb_ne (by omega) (by omega) (fun c7 => ?_) (fun c7 => ?_)
              · rw [if_neg (fun q => c7 (m10.mpr q))] at fourteen
                repeat (first | refine gi_con ?_ | refine gi_bip (Nat.le_of_ble_eq_true rfl) ?_ | refine gi_sip (Nat.le_of_ble_eq_true rfl) ?_ | refine gi_ldc ?_ | refine gi_add ?_ | refine gi_inc rfl ?_ | refine gi_sub (by omega) ?_ | refine gi_mul ?_ | refine go_nx rfl ?_)
                first | refine gb_lt (by omega) (by omega) (fun c8 => ?_) (fun c8 => ?_) | refine gb_ge (by omega) (by omega) (fun c8 => ?_) (fun c8 => ?_) | refine gb_gt (by omega) (by omega) (fun c8 => ?_) (fun c8 => ?_) | refine gb_le (by omega) (by omega) (fun c8 => ?_) (fun c8 => ?_) | refine gb_eq (by omega) (by omega) (fun c8 => ?_) (fun c8 => ?_) | refine gb_ne (by omega) (by omega) (fun c8 => ?_) (fun c8 => ?_)
                · rw [if_neg (fun q => c8 (m7.mpr q))] at fourteen
                  repeat (first | refine gi_con ?_ | refine gi_bip (Nat.le_of_ble_eq_true rfl) ?_ | refine gi_sip (Nat.le_of_ble_eq_true rfl) ?_ | refine gi_ldc ?_ | refine gi_add ?_ | refine gi_inc rfl ?_ | refine gi_sub (by omega) ?_ | refine gi_mul ?_ | refine go_nx rfl ?_)
                  first | refine gb_lt (by omega) (by omega) (fun c9 => ?_) (fun c9 => ?_) | refine gb_ge (by omega) (by omega) (fun c9 => ?_) (fun c9 => ?_) | refine gb_gt (by omega) (by omega) (fun c9 => ?_) (fun c9 => ?_) | refine gb_le (by omega) (by omega) (fun c9 => ?_) (fun c9 => ?_) | refine gb_eq (by omega) (by omega) (fun c9 => ?_) (fun c9 => ?_) | refine gb_ne (by omega) (by omega) (fun c9 => ?_) (fun c9 => ?_)
                  · rw [if_neg (fun q => c9 (m8.mpr q))] at fourteen
                    repeat (first | refine gi_con ?_ | refine gi_bip (Nat.le_of_ble_eq_true rfl) ?_ | refine gi_sip (Nat.le_of_ble_eq_true rfl) ?_ | refine gi_ldc ?_ | refine gi_add ?_ | refine gi_inc rfl ?_ | refine gi_sub (by omega) ?_ | refine gi_mul ?_ | refine go_nx rfl ?_)
                    refine go_jp rfl ?_
                    exact fourteen _ true (fun _ => rfl)
                  · rw [if_pos (m8.mp c9)] at fourteen
                    repeat (first | refine gi_con ?_ | refine gi_bip (Nat.le_of_ble_eq_true rfl) ?_ | refine gi_sip (Nat.le_of_ble_eq_true rfl) ?_ | refine gi_ldc ?_ | refine gi_add ?_ | refine gi_inc rfl ?_ | refine gi_sub (by omega) ?_ | refine gi_mul ?_ | refine go_nx rfl ?_)
                    refine go_step ?_
                    refine g_callV (by decide) (by decide) (Nat.le_of_ble_eq_true rfl) (Nat.le_of_ble_eq_true rfl) mH_rcv (by omega) (Nat.le_of_ble_eq_true rfl) rfl ?_
                    refine sp_miscond (by omega) (hm _) hw hok ?_
                    repeat (first | refine gi_con ?_ | refine gi_bip (Nat.le_of_ble_eq_true rfl) ?_ | refine gi_sip (Nat.le_of_ble_eq_true rfl) ?_ | refine gi_ldc ?_ | refine gi_add ?_ | refine gi_inc rfl ?_ | refine gi_sub (by omega) ?_ | refine gi_mul ?_ | refine go_nx rfl ?_)
                    first | refine gt_eq (fun c10 => ?_) (fun c10 => ?_) | refine gt_ne (fun c10 => ?_) (fun c10 => ?_)
                    · repeat (first | refine gi_con ?_ | refine gi_bip (Nat.le_of_ble_eq_true rfl) ?_ | refine gi_sip (Nat.le_of_ble_eq_true rfl) ?_ | refine gi_ldc ?_ | refine gi_add ?_ | refine gi_inc rfl ?_ | refine gi_sub (by omega) ?_ | refine gi_mul ?_ | refine go_nx rfl ?_)
                      refine go_jp rfl ?_
                      exact fourteen _ false (fun _ => c10.symm)
                    · refine go_jp rfl ?_
                      repeat (first | refine gi_con ?_ | refine gi_bip (Nat.le_of_ble_eq_true rfl) ?_ | refine gi_sip (Nat.le_of_ble_eq_true rfl) ?_ | refine gi_ldc ?_ | refine gi_add ?_ | refine gi_inc rfl ?_ | refine gi_sub (by omega) ?_ | refine gi_mul ?_ | refine go_nx rfl ?_)
                      refine go_jp rfl ?_
                      exact fourteen _ true (fun _ => c10.symm)
                · rw [if_pos (m7.mp c8)] at fourteen
                  repeat (first | refine gi_con ?_ | refine gi_bip (Nat.le_of_ble_eq_true rfl) ?_ | refine gi_sip (Nat.le_of_ble_eq_true rfl) ?_ | refine gi_ldc ?_ | refine gi_add ?_ | refine gi_inc rfl ?_ | refine gi_sub (by omega) ?_ | refine gi_mul ?_ | refine go_nx rfl ?_)
                  first | refine gb_lt (by omega) (by omega) (fun c9 => ?_) (fun c9 => ?_) | refine gb_ge (by omega) (by omega) (fun c9 => ?_) (fun c9 => ?_) | refine gb_gt (by omega) (by omega) (fun c9 => ?_) (fun c9 => ?_) | refine gb_le (by omega) (by omega) (fun c9 => ?_) (fun c9 => ?_) | refine gb_eq (by omega) (by omega) (fun c9 => ?_) (fun c9 => ?_) | refine gb_ne (by omega) (by omega) (fun c9 => ?_) (fun c9 => ?_)
                  · repeat (first | refine gi_con ?_ | refine gi_bip (Nat.le_of_ble_eq_true rfl) ?_ | refine gi_sip (Nat.le_of_ble_eq_true rfl) ?_ | refine gi_ldc ?_ | refine gi_add ?_ | refine gi_inc rfl ?_ | refine gi_sub (by omega) ?_ | refine gi_mul ?_ | refine go_nx rfl ?_)
                    refine go_jp rfl ?_
                    exact fourteen _ false (fun _ => (decide_eq_false c9).symm)
                  · repeat (first | refine gi_con ?_ | refine gi_bip (Nat.le_of_ble_eq_true rfl) ?_ | refine gi_sip (Nat.le_of_ble_eq_true rfl) ?_ | refine gi_ldc ?_ | refine gi_add ?_ | refine gi_inc rfl ?_ | refine gi_sub (by omega) ?_ | refine gi_mul ?_ | refine go_nx rfl ?_)
                    refine go_jp rfl ?_
                    exact fourteen _ true (fun _ => (decide_eq_true c9).symm)
              · rw [if_pos (m10.mp c7)] at fourteen
                have seven : (B e = 16 ∨ B e = 18) → mm_Go E d 136 (mm_blk 136 7) [.ref o, .int (nI (b + v)), .int (nI (b + e)), .int (nI (q_nof (q_word B e))), .int (nI (b + q_val B e)), .int (nI (B e)), x6] [] (mH h o ad (mI I c 0) C) Q := by
                  intro hk
                  rw [decide_eq_true hk] at fourteen
                  have hln : q_next B e = q_val B e + q_ln B (B e) (q_val B e) := rfl
                  have hl2 : q_ln B (B e) (q_val B e) = if B e = 16 then 4 else 8 := by
                    unfold q_ln
                    rcases hk with hk | hk
                    · rw [if_pos hk, if_pos hk]
                    · rw [if_neg (by omega), if_pos hk, if_neg (by omega)]
                  have h3 := hok.2.2.1
                  repeat (first | refine gi_con ?_ | refine gi_bip (Nat.le_of_ble_eq_true rfl) ?_ | refine gi_sip (Nat.le_of_ble_eq_true rfl) ?_ | refine gi_ldc ?_ | refine gi_add ?_ | refine gi_inc rfl ?_ | refine gi_sub (by omega) ?_ | refine gi_mul ?_ | refine go_nx rfl ?_)
                  refine go_step ?_
                  refine g_callV (by decide) (by decide) (Nat.le_of_ble_eq_true rfl) (Nat.le_of_ble_eq_true rfl) mH_rcv (by omega) (Nat.le_of_ble_eq_true rfl) rfl ?_
                  refine sp_mlongAt (by omega) (hm _) hw ?_ ?_
                  · rcases hk with hk | hk
                    · rw [if_pos hk] at hl2
                      exact Or.inl ⟨hk, by omega⟩
                    · rw [if_neg (by omega)] at hl2
                      exact Or.inr (Or.inr ⟨hk, by omega⟩)
                  repeat (first | refine gi_con ?_ | refine gi_bip (Nat.le_of_ble_eq_true rfl) ?_ | refine gi_sip (Nat.le_of_ble_eq_true rfl) ?_ | refine gi_ldc ?_ | refine gi_add ?_ | refine gi_inc rfl ?_ | refine gi_sub (by omega) ?_ | refine gi_mul ?_ | refine go_nx rfl ?_)
                  refine gl_lt (fun c9 => ?_) (fun c9 => ?_)
                  · repeat (first | refine gi_con ?_ | refine gi_bip (Nat.le_of_ble_eq_true rfl) ?_ | refine gi_sip (Nat.le_of_ble_eq_true rfl) ?_ | refine gi_ldc ?_ | refine gi_add ?_ | refine gi_inc rfl ?_ | refine gi_sub (by omega) ?_ | refine gi_mul ?_ | refine go_nx rfl ?_)
                    refine go_jp rfl ?_
                    refine fourteen _ false (fun _ => ?_)
                    rw [decide_eq_false (show ¬ 0 ≤ q_num B (B e) (q_val B e) from Int64.not_le.mpr c9)]
                    rfl
                  · repeat (first | refine gi_con ?_ | refine gi_bip (Nat.le_of_ble_eq_true rfl) ?_ | refine gi_sip (Nat.le_of_ble_eq_true rfl) ?_ | refine gi_ldc ?_ | refine gi_add ?_ | refine gi_inc rfl ?_ | refine gi_sub (by omega) ?_ | refine gi_mul ?_ | refine go_nx rfl ?_)
                    refine go_jp rfl ?_
                    refine fourteen _ true (fun _ => ?_)
                    rw [decide_eq_true (show 0 ≤ q_num B (B e) (q_val B e) from c9)]
                    rfl
                repeat (first | refine gi_con ?_ | refine gi_bip (Nat.le_of_ble_eq_true rfl) ?_ | refine gi_sip (Nat.le_of_ble_eq_true rfl) ?_ | refine gi_ldc ?_ | refine gi_add ?_ | refine gi_inc rfl ?_ | refine gi_sub (by omega) ?_ | refine gi_mul ?_ | refine go_nx rfl ?_)
                first | refine gb_lt (by omega) (by omega) (fun c8 => ?_) (fun c8 => ?_) | refine gb_ge (by omega) (by omega) (fun c8 => ?_) (fun c8 => ?_) | refine gb_gt (by omega) (by omega) (fun c8 => ?_) (fun c8 => ?_) | refine gb_le (by omega) (by omega) (fun c8 => ?_) (fun c8 => ?_) | refine gb_eq (by omega) (by omega) (fun c8 => ?_) (fun c8 => ?_) | refine gb_ne (by omega) (by omega) (fun c8 => ?_) (fun c8 => ?_)
                · exact seven (Or.inl c8)
                repeat (first | refine gi_con ?_ | refine gi_bip (Nat.le_of_ble_eq_true rfl) ?_ | refine gi_sip (Nat.le_of_ble_eq_true rfl) ?_ | refine gi_ldc ?_ | refine gi_add ?_ | refine gi_inc rfl ?_ | refine gi_sub (by omega) ?_ | refine gi_mul ?_ | refine go_nx rfl ?_)
                first | refine gb_lt (by omega) (by omega) (fun c9 => ?_) (fun c9 => ?_) | refine gb_ge (by omega) (by omega) (fun c9 => ?_) (fun c9 => ?_) | refine gb_gt (by omega) (by omega) (fun c9 => ?_) (fun c9 => ?_) | refine gb_le (by omega) (by omega) (fun c9 => ?_) (fun c9 => ?_) | refine gb_eq (by omega) (by omega) (fun c9 => ?_) (fun c9 => ?_) | refine gb_ne (by omega) (by omega) (fun c9 => ?_) (fun c9 => ?_)
                · repeat (first | refine gi_con ?_ | refine gi_bip (Nat.le_of_ble_eq_true rfl) ?_ | refine gi_sip (Nat.le_of_ble_eq_true rfl) ?_ | refine gi_ldc ?_ | refine gi_add ?_ | refine gi_inc rfl ?_ | refine gi_sub (by omega) ?_ | refine gi_mul ?_ | refine go_nx rfl ?_)
                  refine go_jp rfl ?_
                  refine fourteen _ false (fun _ => ?_)
                  rw [decide_eq_false (fun q => q.elim c8 c9)]
                  rfl
                · refine go_jp rfl ?_
                  exact seven (Or.inr c9)
            · rw [if_pos (m9.mp c6)] at fourteen
              repeat (first | refine gi_con ?_ | refine gi_bip (Nat.le_of_ble_eq_true rfl) ?_ | refine gi_sip (Nat.le_of_ble_eq_true rfl) ?_ | refine gi_ldc ?_ | refine gi_add ?_ | refine gi_inc rfl ?_ | refine gi_sub (by omega) ?_ | refine gi_mul ?_ | refine go_nx rfl ?_)
              first | refine gb_lt (by omega) (by omega) (fun c7 => ?_) (fun c7 => ?_) | refine gb_ge (by omega) (by omega) (fun c7 => ?_) (fun c7 => ?_) | refine gb_gt (by omega) (by omega) (fun c7 => ?_) (fun c7 => ?_) | refine gb_le (by omega) (by omega) (fun c7 => ?_) (fun c7 => ?_) | refine gb_eq (by omega) (by omega) (fun c7 => ?_) (fun c7 => ?_) | refine gb_ne (by omega) (by omega) (fun c7 => ?_) (fun c7 => ?_)
              · repeat (first | refine gi_con ?_ | refine gi_bip (Nat.le_of_ble_eq_true rfl) ?_ | refine gi_sip (Nat.le_of_ble_eq_true rfl) ?_ | refine gi_ldc ?_ | refine gi_add ?_ | refine gi_inc rfl ?_ | refine gi_sub (by omega) ?_ | refine gi_mul ?_ | refine go_nx rfl ?_)
                refine go_jp rfl ?_
                exact fourteen _ false (fun _ => (decide_eq_false c7).symm)
              · repeat (first | refine gi_con ?_ | refine gi_bip (Nat.le_of_ble_eq_true rfl) ?_ | refine gi_sip (Nat.le_of_ble_eq_true rfl) ?_ | refine gi_ldc ?_ | refine gi_add ?_ | refine gi_inc rfl ?_ | refine gi_sub (by omega) ?_ | refine gi_mul ?_ | refine go_nx rfl ?_)
                refine go_jp rfl ?_
                exact fourteen _ true (fun _ => (decide_eq_true c7).symm)
          · refine go_jp rfl ?_
            exact two (Or.inr (m12.mp c5))
      repeat (first | refine gi_con ?_ | refine gi_bip (Nat.le_of_ble_eq_true rfl) ?_ | refine gi_sip (Nat.le_of_ble_eq_true rfl) ?_ | refine gi_ldc ?_ | refine gi_add ?_ | refine gi_inc rfl ?_ | refine gi_sub (by omega) ?_ | refine gi_mul ?_ | refine go_nx rfl ?_)
      refine go_jp rfl ?_
      rw [Nat.add_assoc]
      exact loop 2001 (v + 4) 0 c _ _ _ _ (by omega) g4 hc hq
end M
