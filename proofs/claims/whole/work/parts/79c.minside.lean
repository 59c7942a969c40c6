section M
variable {E : mmE} {d : Nat} {h : mmH} {Q : Option Value → mmH → Prop} {o : Nat} {ad : Nat → Nat} {I : Nat → Int32} {C : Nat → Nat → Int32} {R : Nat → Nat} {t : qB} {F V : Option qB} {X : Nat → Option qX}
theorem sp_minside {i w : Int32} (hd : 54 ≤ d) (hD : mD o ad) (hI : mInv R I C t F V X) (hq : ∀ I' C', mInv R I' C' t F V X → Q (some (.int (a_inside F V X i w))) (mH h o ad I' C')) : mm_Go E d 166 (mm_blk 166 0) [.ref o, .int i, .int w, mm_un, mm_un, mm_un, mm_un, mm_un] [] (mH h o ad I C) Q := by
  have one : a_inside F V X i w = -1 → mm_Go E d 166 (mm_blk 166 1) [.ref o, .int i, .int w, mm_un, mm_un, mm_un, mm_un, mm_un] [] (mH h o ad I C) Q := by
    intro e
    rw [e] at hq
    repeat (first | refine gi_con ?_ | refine gi_bip (Nat.le_of_ble_eq_true rfl) ?_ | refine gi_sip (Nat.le_of_ble_eq_true rfl) ?_ | refine gi_ldc ?_ | refine gi_add ?_ | refine gi_inc rfl ?_ | refine gi_sub (by omega) ?_ | refine gi_mul ?_ | refine go_nx rfl ?_)
    refine go_rt rfl ?_
    exact hq I C hI
  unfold a_inside at hq one
  repeat (first | refine gi_con ?_ | refine gi_bip (Nat.le_of_ble_eq_true rfl) ?_ | refine gi_sip (Nat.le_of_ble_eq_true rfl) ?_ | refine gi_ldc ?_ | refine gi_add ?_ | refine gi_inc rfl ?_ | refine gi_sub (by omega) ?_ | refine gi_mul ?_ | refine go_nx rfl ?_)
  refine go_step ?_
  refine g_callV (by decide) (by decide) (Nat.le_of_ble_eq_true rfl) (Nat.le_of_ble_eq_true rfl) mH_rcv (by omega) (Nat.le_of_ble_eq_true rfl) rfl ?_
  refine sp_misPathOf hD hI ?_
  cases hp : q_pth X i w with
  | none =>
    rw [hp] at one
    repeat (first | refine gi_con ?_ | refine gi_bip (Nat.le_of_ble_eq_true rfl) ?_ | refine gi_sip (Nat.le_of_ble_eq_true rfl) ?_ | refine gi_ldc ?_ | refine gi_add ?_ | refine gi_inc rfl ?_ | refine gi_sub (by omega) ?_ | refine gi_mul ?_ | refine go_nx rfl ?_)
    refine gt_eq (fun c => ?_) (fun c => by cases c)
    exact one rfl
  | some p =>
    cases hF : F with
    | none =>
      rw [hp, hF] at one
      repeat (first | refine gi_con ?_ | refine gi_bip (Nat.le_of_ble_eq_true rfl) ?_ | refine gi_sip (Nat.le_of_ble_eq_true rfl) ?_ | refine gi_ldc ?_ | refine gi_add ?_ | refine gi_inc rfl ?_ | refine gi_sub (by omega) ?_ | refine gi_mul ?_ | refine go_nx rfl ?_)
      refine gt_eq (fun c => ?_) (fun c => by cases c)
      exact one rfl
    | some f =>
      rw [hp, hF] at one hq
      rw [hF] at hI
      obtain ⟨ik, hik, rfl⟩ := q_pth_in hp
      repeat (first | refine gi_con ?_ | refine gi_bip (Nat.le_of_ble_eq_true rfl) ?_ | refine gi_sip (Nat.le_of_ble_eq_true rfl) ?_ | refine gi_ldc ?_ | refine gi_add ?_ | refine gi_inc rfl ?_ | refine gi_sub (by omega) ?_ | refine gi_mul ?_ | refine go_nx rfl ?_)
      refine gt_eq (fun c => by cases c) (fun c => ?_)
      repeat (first | refine gi_con ?_ | refine gi_bip (Nat.le_of_ble_eq_true rfl) ?_ | refine gi_sip (Nat.le_of_ble_eq_true rfl) ?_ | refine gi_ldc ?_ | refine gi_add ?_ | refine gi_inc rfl ?_ | refine gi_sub (by omega) ?_ | refine gi_mul ?_ | refine go_nx rfl ?_)
      refine gm_get (.int (q_t V.isSome)) rfl (by rw [← hI.2.2.2.2.2.1.1]; rfl) ?_
      cases hV : V with
      | none =>
        rw [hV] at one
        refine gt_ne (fun c => by cases c) (fun c => ?_)
        refine go_jp rfl ?_
        exact one rfl
      | some v =>
        rw [hV] at hq hI
        dsimp only at hq
        refine gt_ne (fun c => ?_) (fun c => by cases c)
        repeat (first | refine gi_con ?_ | refine gi_bip (Nat.le_of_ble_eq_true rfl) ?_ | refine gi_sip (Nat.le_of_ble_eq_true rfl) ?_ | refine gi_ldc ?_ | refine gi_add ?_ | refine gi_inc rfl ?_ | refine gi_sub (by omega) ?_ | refine gi_mul ?_ | refine go_nx rfl ?_)
        refine go_step ?_
        refine g_callV (by decide) (by decide) (Nat.le_of_ble_eq_true rfl) (Nat.le_of_ble_eq_true rfl) mH_rcv (by omega) (Nat.le_of_ble_eq_true rfl) rfl ?_
        refine sp_mfindX (by omega) hD hI hik hp rfl (fun I2 C2 S2 hI2 hS2 hs2 => ?_)
        cases hl : q_find f.2 p with
        | none =>
          rw [hl] at hq
          repeat (first | refine gi_con ?_ | refine gi_bip (Nat.le_of_ble_eq_true rfl) ?_ | refine gi_sip (Nat.le_of_ble_eq_true rfl) ?_ | refine gi_ldc ?_ | refine gi_add ?_ | refine gi_inc rfl ?_ | refine gi_sub (by omega) ?_ | refine gi_mul ?_ | refine go_nx rfl ?_)
          refine gt_ne (fun c => by cases c) (fun c => ?_)
          repeat (first | refine gi_con ?_ | refine gi_bip (Nat.le_of_ble_eq_true rfl) ?_ | refine gi_sip (Nat.le_of_ble_eq_true rfl) ?_ | refine gi_ldc ?_ | refine gi_add ?_ | refine gi_inc rfl ?_ | refine gi_sub (by omega) ?_ | refine gi_mul ?_ | refine go_nx rfl ?_)
          refine go_rt rfl ?_
          exact hq I2 C2 hI2
        | some l =>
          rw [hl] at hq
          dsimp only at hq
          have hs2 := hs2 l hl
          have hI20 := hI2
          obtain ⟨h1, h2, -, h4, h5, h6, h7⟩ := hI2
          obtain ⟨hw, hfine⟩ := h5.2 f rfl
          obtain ⟨hwv, hbv, hsv, hnv⟩ := h6.2 v rfl
          have hm : mSt (mH h o ad I2 C2) o (ad 1) R := mH_st hD h1 h2
          obtain ⟨b1, b2, b3⟩ := hS2 0 (by decide)
          rw [hs2] at b1 b2 b3
          obtain ⟨g1, g2, g3, g4⟩ := q_box_at hbv
          have hlv : q_last v.2 0 = v.1 - 1 := by unfold q_last; omega
          have hme : q_me v.2 v.1 4 15 := q_me_at g4 (by omega) (by omega)
          have hvc := (q_me_cls hme).2.2.2.2.2.2
          have hrn := hw.2.1
          have std : ∀ (x : qE) (Q' : Option Value → mmH → Prop), q_okE f.2 f.1 x → Q' (some (.int (q_std (q_ord f.2 v.2 17) x (q_cls (v.2 4), 1, 1, 4)))) (mH h o ad I2 C2) → mm_Go E (d - 1) 160 (mm_blk 160 0) [.ref o, .int (q_ef x 0), .int (q_ef x 1), .int (q_ef x 3), .int (nI (q_cls (v.2 4))), .int (nI 1), .int (nI 2004)] [] (mH h o ad I2 C2) Q' := by
            intro x Q' hx hq'
            obtain ⟨x1, x2, x3, x4, x5⟩ := hx
            refine sp_mstand (y := (q_cls (v.2 4), 1, 1, 4)) (z := nI 2004) (ob := q_ord f.2 v.2 17) (by omega) mH_rcv (by omega) ⟨by show q_cls (v.2 4) < 100; omega, by show (1 : Nat) < 100; omega⟩ (fun e1 e2 _ Q2 hq2 => ?_) hq'
            obtain ⟨-, l1, hl1, m1⟩ := x5 e1
            have := sp_morder (E := E) (b1 := 0) (b2 := 2000) hm hw hwv 17 (d - 1 - 1) x.2.2.2 4 l1 15 Q2 (by omega) hl1 (by omega) m1 hme hq2
            rw [Nat.zero_add] at this
            exact this
          have loop : ∀ (m k : Nat) (x6 x7 : Value), m + k = l.length → (∀ I' C', mInv R I' C' t (some f) (some v) X → Q (some (.int (q_t ((l.drop k).any (q_hold f.2 v.2))))) (mH h o ad I' C')) → mm_Go E d 166 (mm_blk 166 4) [.ref o, .int (nI ik), .int w, .int (nI 2004), .int (nI (q_cls (v.2 4))), .int (nI k), x6, x7] [] (mH h o ad I2 C2) Q := by
            intro m
            induction m with
            | zero =>
              intro k x6 x7 hmk hq
              rw [List.drop_of_length_le (by omega)] at hq
              repeat (first | refine gi_con ?_ | refine gi_bip (Nat.le_of_ble_eq_true rfl) ?_ | refine gi_sip (Nat.le_of_ble_eq_true rfl) ?_ | refine gi_ldc ?_ | refine gi_add ?_ | refine gi_inc rfl ?_ | refine gi_sub (by omega) ?_ | refine gi_mul ?_ | refine go_nx rfl ?_)
              refine gm_get (.ref (ad 14)) rfl rfl ?_
              repeat (first | refine gi_con ?_ | refine gi_bip (Nat.le_of_ble_eq_true rfl) ?_ | refine gi_sip (Nat.le_of_ble_eq_true rfl) ?_ | refine gi_ldc ?_ | refine gi_add ?_ | refine gi_inc rfl ?_ | refine gi_sub (by omega) ?_ | refine gi_mul ?_ | refine go_nx rfl ?_)
              refine gm_ild hD (by decide) rfl (show 0 < 3 by decide) (by decide) ?_
              rw [b2]
              repeat (first | refine gi_con ?_ | refine gi_bip (Nat.le_of_ble_eq_true rfl) ?_ | refine gi_sip (Nat.le_of_ble_eq_true rfl) ?_ | refine gi_ldc ?_ | refine gi_add ?_ | refine gi_inc rfl ?_ | refine gi_sub (by omega) ?_ | refine gi_mul ?_ | refine go_nx rfl ?_)
              first | refine gb_lt (by omega) (by omega) (fun c1 => ?_) (fun c1 => ?_) | refine gb_ge (by omega) (by omega) (fun c1 => ?_) (fun c1 => ?_) | refine gb_gt (by omega) (by omega) (fun c1 => ?_) (fun c1 => ?_) | refine gb_le (by omega) (by omega) (fun c1 => ?_) (fun c1 => ?_) | refine gb_eq (by omega) (by omega) (fun c1 => ?_) (fun c1 => ?_) | refine gb_ne (by omega) (by omega) (fun c1 => ?_) (fun c1 => ?_)
              · repeat (first | refine gi_con ?_ | refine gi_bip (Nat.le_of_ble_eq_true rfl) ?_ | refine gi_sip (Nat.le_of_ble_eq_true rfl) ?_ | refine gi_ldc ?_ | refine gi_add ?_ | refine gi_inc rfl ?_ | refine gi_sub (by omega) ?_ | refine gi_mul ?_ | refine go_nx rfl ?_)
                refine go_rt rfl ?_
                exact hq I2 C2 hI20
              · omega
            | succ m ih =>
              intro k x6 x7 hmk hq
              have hkl : k < l.length := by omega
              generalize hr : l.getD k q_r0 = r
              rw [drop_getD (x := q_r0) hkl, hr, List.any_cons] at hq
              have hrok : q_okR f.2 f.1 r := by rw [← hr]; exact q_find_ok hfine hl _ (getD_mem hkl)
              have hkl2 : k < (S2 0).length := by rw [hs2]; exact hkl
              have hr2 : (S2 0).getD k q_r0 = r := by rw [hs2]; exact hr
              have p4 := hrok.1.2.2.2.1
              have p9 := hrok.2.2.2.2.1
              have seven : ∀ (x6 x7 : Int32), q_hold f.2 v.2 r = false → mm_Go E d 166 (mm_blk 166 7) [.ref o, .int (nI ik), .int w, .int (nI 2004), .int (nI (q_cls (v.2 4))), .int (nI k), .int x6, .int x7] [] (mH h o ad I2 C2) Q := by
                intro x6 x7 e
                rw [e, Bool.false_or] at hq
                repeat (first | refine gi_con ?_ | refine gi_bip (Nat.le_of_ble_eq_true rfl) ?_ | refine gi_sip (Nat.le_of_ble_eq_true rfl) ?_ | refine gi_ldc ?_ | refine gi_add ?_ | refine gi_inc rfl ?_ | refine gi_sub (by omega) ?_ | refine gi_mul ?_ | refine go_nx rfl ?_)
                refine go_jp rfl ?_
                exact ih (k + 1) _ _ (by omega) hq
              have six : ∀ (x6 x7 : Int32), q_hold f.2 v.2 r = true → mm_Go E d 166 (mm_blk 166 6) [.ref o, .int (nI ik), .int w, .int (nI 2004), .int (nI (q_cls (v.2 4))), .int (nI k), .int x6, .int x7] [] (mH h o ad I2 C2) Q := by
                intro x6 x7 e
                rw [e, Bool.true_or] at hq
                repeat (first | refine gi_con ?_ | refine gi_bip (Nat.le_of_ble_eq_true rfl) ?_ | refine gi_sip (Nat.le_of_ble_eq_true rfl) ?_ | refine gi_ldc ?_ | refine gi_add ?_ | refine gi_inc rfl ?_ | refine gi_sub (by omega) ?_ | refine gi_mul ?_ | refine go_nx rfl ?_)
                refine go_rt rfl ?_
                exact hq I2 C2 hI20
              unfold q_hold at six seven
              have five : (decide (q_std (q_ord f.2 v.2 17) r.1 (q_cls (v.2 4), 1, 1, 4) < 0) || (decide (q_std (q_ord f.2 v.2 17) r.1 (q_cls (v.2 4), 1, 1, 4) = 0) && decide (r.1.2.2.1 = 1))) = true → ∀ (x6 : Int32), mm_Go E d 166 (mm_blk 166 5) [.ref o, .int (nI ik), .int w, .int (nI 2004), .int (nI (q_cls (v.2 4))), .int (nI k), .int x6, .int (q_std (q_ord f.2 v.2 17) r.2 (q_cls (v.2 4), 1, 1, 4))] [] (mH h o ad I2 C2) Q := by
                intro e x6
                rw [e, Bool.true_and] at six seven
                repeat (first | refine gi_con ?_ | refine gi_bip (Nat.le_of_ble_eq_true rfl) ?_ | refine gi_sip (Nat.le_of_ble_eq_true rfl) ?_ | refine gi_ldc ?_ | refine gi_add ?_ | refine gi_inc rfl ?_ | refine gi_sub (by omega) ?_ | refine gi_mul ?_ | refine go_nx rfl ?_)
                refine gx_gt (fun c2 => ?_) (fun c2 => ?_)
                · exact six _ _ (by rw [decide_eq_true c2]; rfl)
                rw [decide_eq_false c2, Bool.false_or] at six seven
                repeat (first | refine gi_con ?_ | refine gi_bip (Nat.le_of_ble_eq_true rfl) ?_ | refine gi_sip (Nat.le_of_ble_eq_true rfl) ?_ | refine gi_ldc ?_ | refine gi_add ?_ | refine gi_inc rfl ?_ | refine gi_sub (by omega) ?_ | refine gi_mul ?_ | refine go_nx rfl ?_)
                refine gx_ne (fun c3 => ?_) (fun c3 => ?_)
                · exact seven _ _ (by rw [decide_eq_false c3]; rfl)
                rw [decide_eq_true c3, Bool.true_and] at six seven
                repeat (first | refine gi_con ?_ | refine gi_bip (Nat.le_of_ble_eq_true rfl) ?_ | refine gi_sip (Nat.le_of_ble_eq_true rfl) ?_ | refine gi_ldc ?_ | refine gi_add ?_ | refine gi_inc rfl ?_ | refine gi_sub (by omega) ?_ | refine gi_mul ?_ | refine go_nx rfl ?_)
                refine go_step ?_
                refine g_callV (by decide) (by decide) (Nat.le_of_ble_eq_true rfl) (Nat.le_of_ble_eq_true rfl) mH_rcv (by omega) (Nat.le_of_ble_eq_true rfl) rfl ?_
                refine sp_mfh (s := 0) (x := r) 6 hD hS2 (by decide) hkl2 hr2 (by omega) ?_
                rw [show q_ef r.2 (6 - 4) = nI r.2.2.2.1 from rfl]
                repeat (first | refine gi_con ?_ | refine gi_bip (Nat.le_of_ble_eq_true rfl) ?_ | refine gi_sip (Nat.le_of_ble_eq_true rfl) ?_ | refine gi_ldc ?_ | refine gi_add ?_ | refine gi_inc rfl ?_ | refine gi_sub (by omega) ?_ | refine gi_mul ?_ | refine go_nx rfl ?_)
                first | refine gb_lt (by omega) (by omega) (fun c4 => ?_) (fun c4 => ?_) | refine gb_ge (by omega) (by omega) (fun c4 => ?_) (fun c4 => ?_) | refine gb_gt (by omega) (by omega) (fun c4 => ?_) (fun c4 => ?_) | refine gb_le (by omega) (by omega) (fun c4 => ?_) (fun c4 => ?_) | refine gb_eq (by omega) (by omega) (fun c4 => ?_) (fun c4 => ?_) | refine gb_ne (by omega) (by omega) (fun c4 => ?_) (fun c4 => ?_)
                · exact seven _ _ (decide_eq_false c4)
                · refine go_jp rfl ?_
                  exact six _ _ (decide_eq_true c4)
              repeat (first | refine gi_con ?_ | refine gi_bip (Nat.le_of_ble_eq_true rfl) ?_ | refine gi_sip (Nat.le_of_ble_eq_true rfl) ?_ | refine gi_ldc ?_ | refine gi_add ?_ | refine gi_inc rfl ?_ | refine gi_sub (by omega) ?_ | refine gi_mul ?_ | refine go_nx rfl ?_)
              refine gm_get (.ref (ad 14)) rfl rfl ?_
              repeat (first | refine gi_con ?_ | refine gi_bip (Nat.le_of_ble_eq_true rfl) ?_ | refine gi_sip (Nat.le_of_ble_eq_true rfl) ?_ | refine gi_ldc ?_ | refine gi_add ?_ | refine gi_inc rfl ?_ | refine gi_sub (by omega) ?_ | refine gi_mul ?_ | refine go_nx rfl ?_)
              refine gm_ild hD (by decide) rfl (show 0 < 3 by decide) (by decide) ?_
              rw [b2]
              repeat (first | refine gi_con ?_ | refine gi_bip (Nat.le_of_ble_eq_true rfl) ?_ | refine gi_sip (Nat.le_of_ble_eq_true rfl) ?_ | refine gi_ldc ?_ | refine gi_add ?_ | refine gi_inc rfl ?_ | refine gi_sub (by omega) ?_ | refine gi_mul ?_ | refine go_nx rfl ?_)
              first | refine gb_lt (by omega) (by omega) (fun c1 => ?_) (fun c1 => ?_) | refine gb_ge (by omega) (by omega) (fun c1 => ?_) (fun c1 => ?_) | refine gb_gt (by omega) (by omega) (fun c1 => ?_) (fun c1 => ?_) | refine gb_le (by omega) (by omega) (fun c1 => ?_) (fun c1 => ?_) | refine gb_eq (by omega) (by omega) (fun c1 => ?_) (fun c1 => ?_) | refine gb_ne (by omega) (by omega) (fun c1 => ?_) (fun c1 => ?_)
              · omega
              repeat (first | refine gi_con ?_ | refine gi_bip (Nat.le_of_ble_eq_true rfl) ?_ | refine gi_sip (Nat.le_of_ble_eq_true rfl) ?_ | refine gi_ldc ?_ | refine gi_add ?_ | refine gi_inc rfl ?_ | refine gi_sub (by omega) ?_ | refine gi_mul ?_ | refine go_nx rfl ?_)
              refine go_step ?_
              refine g_callV (by decide) (by decide) (Nat.le_of_ble_eq_true rfl) (Nat.le_of_ble_eq_true rfl) mH_rcv (by omega) (Nat.le_of_ble_eq_true rfl) rfl ?_
              refine sp_mfl (s := 0) (x := r) 0 hD hS2 (by decide) hkl2 hr2 (by omega) ?_
              repeat (first | refine gi_con ?_ | refine gi_bip (Nat.le_of_ble_eq_true rfl) ?_ | refine gi_sip (Nat.le_of_ble_eq_true rfl) ?_ | refine gi_ldc ?_ | refine gi_add ?_ | refine gi_inc rfl ?_ | refine gi_sub (by omega) ?_ | refine gi_mul ?_ | refine go_nx rfl ?_)
              refine go_step ?_
              refine g_callV (by decide) (by decide) (Nat.le_of_ble_eq_true rfl) (Nat.le_of_ble_eq_true rfl) mH_rcv (by omega) (Nat.le_of_ble_eq_true rfl) rfl ?_
              refine sp_mfl (s := 0) (x := r) 1 hD hS2 (by decide) hkl2 hr2 (by omega) ?_
              repeat (first | refine gi_con ?_ | refine gi_bip (Nat.le_of_ble_eq_true rfl) ?_ | refine gi_sip (Nat.le_of_ble_eq_true rfl) ?_ | refine gi_ldc ?_ | refine gi_add ?_ | refine gi_inc rfl ?_ | refine gi_sub (by omega) ?_ | refine gi_mul ?_ | refine go_nx rfl ?_)
              refine go_step ?_
              refine g_callV (by decide) (by decide) (Nat.le_of_ble_eq_true rfl) (Nat.le_of_ble_eq_true rfl) mH_rcv (by omega) (Nat.le_of_ble_eq_true rfl) rfl ?_
              refine sp_mfl (s := 0) (x := r) 3 hD hS2 (by decide) hkl2 hr2 (by omega) ?_
              repeat (first | refine gi_con ?_ | refine gi_bip (Nat.le_of_ble_eq_true rfl) ?_ | refine gi_sip (Nat.le_of_ble_eq_true rfl) ?_ | refine gi_ldc ?_ | refine gi_add ?_ | refine gi_inc rfl ?_ | refine gi_sub (by omega) ?_ | refine gi_mul ?_ | refine go_nx rfl ?_)
              refine go_step ?_
              refine g_callV (by decide) (by decide) (Nat.le_of_ble_eq_true rfl) (Nat.le_of_ble_eq_true rfl) mH_rcv (by omega) (Nat.le_of_ble_eq_true rfl) rfl ?_
              refine std r.1 _ hrok.1 ?_
              repeat (first | refine gi_con ?_ | refine gi_bip (Nat.le_of_ble_eq_true rfl) ?_ | refine gi_sip (Nat.le_of_ble_eq_true rfl) ?_ | refine gi_ldc ?_ | refine gi_add ?_ | refine gi_inc rfl ?_ | refine gi_sub (by omega) ?_ | refine gi_mul ?_ | refine go_nx rfl ?_)
              refine go_step ?_
              refine g_callV (by decide) (by decide) (Nat.le_of_ble_eq_true rfl) (Nat.le_of_ble_eq_true rfl) mH_rcv (by omega) (Nat.le_of_ble_eq_true rfl) rfl ?_
              refine sp_mfh (s := 0) (x := r) 4 hD hS2 (by decide) hkl2 hr2 (by omega) ?_
              repeat (first | refine gi_con ?_ | refine gi_bip (Nat.le_of_ble_eq_true rfl) ?_ | refine gi_sip (Nat.le_of_ble_eq_true rfl) ?_ | refine gi_ldc ?_ | refine gi_add ?_ | refine gi_inc rfl ?_ | refine gi_sub (by omega) ?_ | refine gi_mul ?_ | refine go_nx rfl ?_)
              refine go_step ?_
              refine g_callV (by decide) (by decide) (Nat.le_of_ble_eq_true rfl) (Nat.le_of_ble_eq_true rfl) mH_rcv (by omega) (Nat.le_of_ble_eq_true rfl) rfl ?_
              refine sp_mfh (s := 0) (x := r) 5 hD hS2 (by decide) hkl2 hr2 (by omega) ?_
              repeat (first | refine gi_con ?_ | refine gi_bip (Nat.le_of_ble_eq_true rfl) ?_ | refine gi_sip (Nat.le_of_ble_eq_true rfl) ?_ | refine gi_ldc ?_ | refine gi_add ?_ | refine gi_inc rfl ?_ | refine gi_sub (by omega) ?_ | refine gi_mul ?_ | refine go_nx rfl ?_)
              refine go_step ?_
              refine g_callV (by decide) (by decide) (Nat.le_of_ble_eq_true rfl) (Nat.le_of_ble_eq_true rfl) mH_rcv (by omega) (Nat.le_of_ble_eq_true rfl) rfl ?_
              refine sp_mfh (s := 0) (x := r) 7 hD hS2 (by decide) hkl2 hr2 (by omega) ?_
              repeat (first | refine gi_con ?_ | refine gi_bip (Nat.le_of_ble_eq_true rfl) ?_ | refine gi_sip (Nat.le_of_ble_eq_true rfl) ?_ | refine gi_ldc ?_ | refine gi_add ?_ | refine gi_inc rfl ?_ | refine gi_sub (by omega) ?_ | refine gi_mul ?_ | refine go_nx rfl ?_)
              refine go_step ?_
              refine g_callV (by decide) (by decide) (Nat.le_of_ble_eq_true rfl) (Nat.le_of_ble_eq_true rfl) mH_rcv (by omega) (Nat.le_of_ble_eq_true rfl) rfl ?_
              refine std r.2 _ hrok.2 ?_
              repeat (first | refine gi_con ?_ | refine gi_bip (Nat.le_of_ble_eq_true rfl) ?_ | refine gi_sip (Nat.le_of_ble_eq_true rfl) ?_ | refine gi_ldc ?_ | refine gi_add ?_ | refine gi_inc rfl ?_ | refine gi_sub (by omega) ?_ | refine gi_mul ?_ | refine go_nx rfl ?_)
              refine gx_lt (fun c2 => ?_) (fun c2 => ?_)
              · exact five (by rw [decide_eq_true c2]; rfl) _
              repeat (first | refine gi_con ?_ | refine gi_bip (Nat.le_of_ble_eq_true rfl) ?_ | refine gi_sip (Nat.le_of_ble_eq_true rfl) ?_ | refine gi_ldc ?_ | refine gi_add ?_ | refine gi_inc rfl ?_ | refine gi_sub (by omega) ?_ | refine gi_mul ?_ | refine go_nx rfl ?_)
              refine gx_ne (fun c3 => ?_) (fun c3 => ?_)
              · exact seven _ _ (by rw [decide_eq_false c2, decide_eq_false c3]; rfl)
              repeat (first | refine gi_con ?_ | refine gi_bip (Nat.le_of_ble_eq_true rfl) ?_ | refine gi_sip (Nat.le_of_ble_eq_true rfl) ?_ | refine gi_ldc ?_ | refine gi_add ?_ | refine gi_inc rfl ?_ | refine gi_sub (by omega) ?_ | refine gi_mul ?_ | refine go_nx rfl ?_)
              refine go_step ?_
              refine g_callV (by decide) (by decide) (Nat.le_of_ble_eq_true rfl) (Nat.le_of_ble_eq_true rfl) mH_rcv (by omega) (Nat.le_of_ble_eq_true rfl) rfl ?_
              refine sp_mfl (s := 0) (x := r) 2 hD hS2 (by decide) hkl2 hr2 (by omega) ?_
              rw [show q_ef r.1 2 = nI r.1.2.2.1 from rfl]
              repeat (first | refine gi_con ?_ | refine gi_bip (Nat.le_of_ble_eq_true rfl) ?_ | refine gi_sip (Nat.le_of_ble_eq_true rfl) ?_ | refine gi_ldc ?_ | refine gi_add ?_ | refine gi_inc rfl ?_ | refine gi_sub (by omega) ?_ | refine gi_mul ?_ | refine go_nx rfl ?_)
              first | refine gb_lt (by omega) (by omega) (fun c4 => ?_) (fun c4 => ?_) | refine gb_ge (by omega) (by omega) (fun c4 => ?_) (fun c4 => ?_) | refine gb_gt (by omega) (by omega) (fun c4 => ?_) (fun c4 => ?_) | refine gb_le (by omega) (by omega) (fun c4 => ?_) (fun c4 => ?_) | refine gb_eq (by omega) (by omega) (fun c4 => ?_) (fun c4 => ?_) | refine gb_ne (by omega) (by omega) (fun c4 => ?_) (fun c4 => ?_)
              · exact seven _ _ (by rw [decide_eq_false c2, decide_eq_false c4, Bool.and_false]; rfl)
              · refine go_jp rfl ?_
                exact five (by rw [decide_eq_true c3, decide_eq_true c4, decide_eq_false c2]; rfl) _
          repeat (first | refine gi_con ?_ | refine gi_bip (Nat.le_of_ble_eq_true rfl) ?_ | refine gi_sip (Nat.le_of_ble_eq_true rfl) ?_ | refine gi_ldc ?_ | refine gi_add ?_ | refine gi_inc rfl ?_ | refine gi_sub (by omega) ?_ | refine gi_mul ?_ | refine go_nx rfl ?_)
          refine gt_ne (fun c => ?_) (fun c => by cases c)
          repeat (first | refine gi_con ?_ | refine gi_bip (Nat.le_of_ble_eq_true rfl) ?_ | refine gi_sip (Nat.le_of_ble_eq_true rfl) ?_ | refine gi_ldc ?_ | refine gi_add ?_ | refine gi_inc rfl ?_ | refine gi_sub (by omega) ?_ | refine gi_mul ?_ | refine go_nx rfl ?_)
          refine go_step ?_
          refine g_callV (by decide) (by decide) (Nat.le_of_ble_eq_true rfl) (Nat.le_of_ble_eq_true rfl) mH_rcv (by omega) (Nat.le_of_ble_eq_true rfl) rfl ?_
          refine sp_mat2 (b := 2000) (x := 4) hm hwv (by omega) ?_
          repeat (first | refine gi_con ?_ | refine gi_bip (Nat.le_of_ble_eq_true rfl) ?_ | refine gi_sip (Nat.le_of_ble_eq_true rfl) ?_ | refine gi_ldc ?_ | refine gi_add ?_ | refine gi_inc rfl ?_ | refine gi_sub (by omega) ?_ | refine gi_mul ?_ | refine go_nx rfl ?_)
          refine go_step ?_
          refine g_call (k := 154) rfl (by omega) (Nat.le_of_ble_eq_true rfl) rfl ?_
          refine sp_mcls (q_me_kind hme) ?_
          repeat (first | refine gi_con ?_ | refine gi_bip (Nat.le_of_ble_eq_true rfl) ?_ | refine gi_sip (Nat.le_of_ble_eq_true rfl) ?_ | refine gi_ldc ?_ | refine gi_add ?_ | refine gi_inc rfl ?_ | refine gi_sub (by omega) ?_ | refine gi_mul ?_ | refine go_nx rfl ?_)
          refine go_jp rfl ?_
          exact loop l.length 0 _ _ (by omega) (by rw [List.drop_zero]; exact hq)
end M
