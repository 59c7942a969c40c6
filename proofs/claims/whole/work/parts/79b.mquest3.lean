def q_chs (F : Option qB) (X : Nat → Option qX) : Nat → Nat → Int32 → Int32
  | 0, _, b => b
  | m + 1, i, b => q_chs F X m (i + 1) (if 0 < (if (X i).isSome = true then a_rank F X (nI i) else 0) ∧ (b < 0 ∨ a_rank F X b < (if (X i).isSome = true then a_rank F X (nI i) else 0) ∨ (if (X i).isSome = true then a_rank F X (nI i) else 0) = a_rank F X b ∧ a_ranges F X (nI i) < a_ranges F X b) then nI i else b)
def a_choose (F : Option qB) (X : Nat → Option qX) : Int32 := if F.isSome = true then q_chs F X 8 0 (-1) else -2
section M
variable {E : mmE} {d : Nat} {h : mmH} {Q : Option Value → mmH → Prop} {o : Nat} {ad : Nat → Nat} {I : Nat → Int32} {C : Nat → Nat → Int32} {R : Nat → Nat} {t : qB} {F V : Option qB} {X : Nat → Option qX}
theorem sp_mchoose (hd : 60 ≤ d) (hD : mD o ad) (hI : mInv R I C t F V X) (hq : ∀ I' C', mInv R I' C' t F V X → Q (some (.int (a_choose F X))) (mH h o ad I' C')) : mm_Go E d 170 (mm_blk 170 0) [.ref o, mm_un, mm_un, mm_un] [] (mH h o ad I C) Q := by
  unfold a_choose at hq
  have loop : ∀ (m i : Nat) (b : Int32) (I1 : Nat → Int32) (C1 : Nat → Nat → Int32) (x3 : Value), m + i = 8 → mInv R I1 C1 t F V X → (∀ I' C', mInv R I' C' t F V X → Q (some (.int (q_chs F X m i b))) (mH h o ad I' C')) → mm_Go E d 170 (mm_blk 170 2) [.ref o, .int b, .int (nI i), x3] [] (mH h o ad I1 C1) Q := by
    intro m
    induction m with
    | zero =>
      intro i b I1 C1 x3 hm hI1 hq
      repeat (first | refine gi_con ?_ | refine gi_bip (Nat.le_of_ble_eq_true rfl) ?_ | refine gi_sip (Nat.le_of_ble_eq_true rfl) ?_ | refine gi_ldc ?_ | refine gi_add ?_ | refine gi_inc rfl ?_ | refine gi_sub (by omega) ?_ | refine gi_mul ?_ | refine go_nx rfl ?_)
      first | refine gb_lt (by omega) (by omega) (fun c => ?_) (fun c => ?_) | refine gb_ge (by omega) (by omega) (fun c => ?_) (fun c => ?_) | refine gb_gt (by omega) (by omega) (fun c => ?_) (fun c => ?_) | refine gb_le (by omega) (by omega) (fun c => ?_) (fun c => ?_) | refine gb_eq (by omega) (by omega) (fun c => ?_) (fun c => ?_) | refine gb_ne (by omega) (by omega) (fun c => ?_) (fun c => ?_)
      · repeat (first | refine gi_con ?_ | refine gi_bip (Nat.le_of_ble_eq_true rfl) ?_ | refine gi_sip (Nat.le_of_ble_eq_true rfl) ?_ | refine gi_ldc ?_ | refine gi_add ?_ | refine gi_inc rfl ?_ | refine gi_sub (by omega) ?_ | refine gi_mul ?_ | refine go_nx rfl ?_)
        refine go_rt rfl ?_
        exact hq I1 C1 hI1
      · omega
    | succ m ih =>
      intro i b I1 C1 x3 hm hI1 hq
      unfold q_chs at hq
      have hi : i < 8 := by omega
      have six : ∀ (b2 : Int32) (x3 : Int32) (I2 : Nat → Int32) (C2 : Nat → Nat → Int32), mInv R I2 C2 t F V X → (∀ I' C', mInv R I' C' t F V X → Q (some (.int (q_chs F X m (i + 1) b2))) (mH h o ad I' C')) → mm_Go E d 170 (mm_blk 170 6) [.ref o, .int b2, .int (nI i), .int x3] [] (mH h o ad I2 C2) Q := by
        intro b2 x3 I2 C2 hI2 hq
        repeat (first | refine gi_con ?_ | refine gi_bip (Nat.le_of_ble_eq_true rfl) ?_ | refine gi_sip (Nat.le_of_ble_eq_true rfl) ?_ | refine gi_ldc ?_ | refine gi_add ?_ | refine gi_inc rfl ?_ | refine gi_sub (by omega) ?_ | refine gi_mul ?_ | refine go_nx rfl ?_)
        refine go_jp rfl ?_
        exact ih (i + 1) b2 I2 C2 _ (by omega) hI2 hq
      have four : ∀ (r : Int32) (x3 : Value) (I2 : Nat → Int32) (C2 : Nat → Nat → Int32), mInv R I2 C2 t F V X → (if (X i).isSome = true then a_rank F X (nI i) else 0) = r → mm_Go E d 170 (mm_blk 170 4) [.ref o, .int b, .int (nI i), x3] [.int r] (mH h o ad I2 C2) Q := by
        intro r x3 I2 C2 hI2 hr
        rw [hr] at hq
        have five : ∀ (I3 : Nat → Int32) (C3 : Nat → Nat → Int32), mInv R I3 C3 t F V X → (0 < r ∧ (b < 0 ∨ a_rank F X b < r ∨ r = a_rank F X b ∧ a_ranges F X (nI i) < a_ranges F X b)) → mm_Go E d 170 (mm_blk 170 5) [.ref o, .int b, .int (nI i), .int r] [] (mH h o ad I3 C3) Q := by
          intro I3 C3 hI3 hh
          rw [if_pos hh] at hq
          repeat (first | refine gi_con ?_ | refine gi_bip (Nat.le_of_ble_eq_true rfl) ?_ | refine gi_sip (Nat.le_of_ble_eq_true rfl) ?_ | refine gi_ldc ?_ | refine gi_add ?_ | refine gi_inc rfl ?_ | refine gi_sub (by omega) ?_ | refine gi_mul ?_ | refine go_nx rfl ?_)
          refine go_jp rfl ?_
          exact six _ _ I3 C3 hI3 hq
        repeat (first | refine gi_con ?_ | refine gi_bip (Nat.le_of_ble_eq_true rfl) ?_ | refine gi_sip (Nat.le_of_ble_eq_true rfl) ?_ | refine gi_ldc ?_ | refine gi_add ?_ | refine gi_inc rfl ?_ | refine gi_sub (by omega) ?_ | refine gi_mul ?_ | refine go_nx rfl ?_)
        refine gx_le (fun c1 => ?_) (fun c1 => ?_)
        · rw [if_neg (fun q => Int32.not_le.mpr q.1 c1)] at hq
          exact six _ _ I2 C2 hI2 hq
        have c1' : 0 < r := Int32.not_le.mp c1
        repeat (first | refine gi_con ?_ | refine gi_bip (Nat.le_of_ble_eq_true rfl) ?_ | refine gi_sip (Nat.le_of_ble_eq_true rfl) ?_ | refine gi_ldc ?_ | refine gi_add ?_ | refine gi_inc rfl ?_ | refine gi_sub (by omega) ?_ | refine gi_mul ?_ | refine go_nx rfl ?_)
        refine gx_lt (fun c2 => ?_) (fun c2 => ?_)
        · exact five I2 C2 hI2 ⟨c1', Or.inl c2⟩
        repeat (first | refine gi_con ?_ | refine gi_bip (Nat.le_of_ble_eq_true rfl) ?_ | refine gi_sip (Nat.le_of_ble_eq_true rfl) ?_ | refine gi_ldc ?_ | refine gi_add ?_ | refine gi_inc rfl ?_ | refine gi_sub (by omega) ?_ | refine gi_mul ?_ | refine go_nx rfl ?_)
        refine go_step ?_
        refine g_callV (by decide) (by decide) (Nat.le_of_ble_eq_true rfl) (Nat.le_of_ble_eq_true rfl) mH_rcv (by omega) (Nat.le_of_ble_eq_true rfl) rfl ?_
        refine sp_mrank (by omega) hD hI2 (fun I3 C3 hI3 => ?_)
        repeat (first | refine gi_con ?_ | refine gi_bip (Nat.le_of_ble_eq_true rfl) ?_ | refine gi_sip (Nat.le_of_ble_eq_true rfl) ?_ | refine gi_ldc ?_ | refine gi_add ?_ | refine gi_inc rfl ?_ | refine gi_sub (by omega) ?_ | refine gi_mul ?_ | refine go_nx rfl ?_)
        refine gy_gt (fun c3 => ?_) (fun c3 => ?_)
        · exact five I3 C3 hI3 ⟨c1', Or.inr (Or.inl c3)⟩
        repeat (first | refine gi_con ?_ | refine gi_bip (Nat.le_of_ble_eq_true rfl) ?_ | refine gi_sip (Nat.le_of_ble_eq_true rfl) ?_ | refine gi_ldc ?_ | refine gi_add ?_ | refine gi_inc rfl ?_ | refine gi_sub (by omega) ?_ | refine gi_mul ?_ | refine go_nx rfl ?_)
        refine go_step ?_
        refine g_callV (by decide) (by decide) (Nat.le_of_ble_eq_true rfl) (Nat.le_of_ble_eq_true rfl) mH_rcv (by omega) (Nat.le_of_ble_eq_true rfl) rfl ?_
        refine sp_mrank (by omega) hD hI3 (fun I4 C4 hI4 => ?_)
        repeat (first | refine gi_con ?_ | refine gi_bip (Nat.le_of_ble_eq_true rfl) ?_ | refine gi_sip (Nat.le_of_ble_eq_true rfl) ?_ | refine gi_ldc ?_ | refine gi_add ?_ | refine gi_inc rfl ?_ | refine gi_sub (by omega) ?_ | refine gi_mul ?_ | refine go_nx rfl ?_)
        refine gy_ne (fun c4 => ?_) (fun c4 => ?_)
        · rw [if_neg (fun q => q.2.elim c2 (fun q => q.elim c3 (fun q => c4 q.1)))] at hq
          exact six _ _ I4 C4 hI4 hq
        repeat (first | refine gi_con ?_ | refine gi_bip (Nat.le_of_ble_eq_true rfl) ?_ | refine gi_sip (Nat.le_of_ble_eq_true rfl) ?_ | refine gi_ldc ?_ | refine gi_add ?_ | refine gi_inc rfl ?_ | refine gi_sub (by omega) ?_ | refine gi_mul ?_ | refine go_nx rfl ?_)
        refine go_step ?_
        refine g_callV (by decide) (by decide) (Nat.le_of_ble_eq_true rfl) (Nat.le_of_ble_eq_true rfl) mH_rcv (by omega) (Nat.le_of_ble_eq_true rfl) rfl ?_
        refine sp_mranges (by omega) hD hI4 (fun I5 C5 hI5 => ?_)
        repeat (first | refine gi_con ?_ | refine gi_bip (Nat.le_of_ble_eq_true rfl) ?_ | refine gi_sip (Nat.le_of_ble_eq_true rfl) ?_ | refine gi_ldc ?_ | refine gi_add ?_ | refine gi_inc rfl ?_ | refine gi_sub (by omega) ?_ | refine gi_mul ?_ | refine go_nx rfl ?_)
        refine go_step ?_
        refine g_callV (by decide) (by decide) (Nat.le_of_ble_eq_true rfl) (Nat.le_of_ble_eq_true rfl) mH_rcv (by omega) (Nat.le_of_ble_eq_true rfl) rfl ?_
        refine sp_mranges (by omega) hD hI5 (fun I6 C6 hI6 => ?_)
        repeat (first | refine gi_con ?_ | refine gi_bip (Nat.le_of_ble_eq_true rfl) ?_ | refine gi_sip (Nat.le_of_ble_eq_true rfl) ?_ | refine gi_ldc ?_ | refine gi_add ?_ | refine gi_inc rfl ?_ | refine gi_sub (by omega) ?_ | refine gi_mul ?_ | refine go_nx rfl ?_)
        refine gy_ge (fun c5 => ?_) (fun c5 => ?_)
        · rw [if_neg (fun q => q.2.elim c2 (fun q => q.elim c3 (fun q => Int32.not_le.mpr q.2 c5)))] at hq
          exact six _ _ I6 C6 hI6 hq
        · refine go_jp rfl ?_
          exact five I6 C6 hI6 ⟨c1', Or.inr (Or.inr ⟨c4, Int32.not_le.mp c5⟩)⟩
      repeat (first | refine gi_con ?_ | refine gi_bip (Nat.le_of_ble_eq_true rfl) ?_ | refine gi_sip (Nat.le_of_ble_eq_true rfl) ?_ | refine gi_ldc ?_ | refine gi_add ?_ | refine gi_inc rfl ?_ | refine gi_sub (by omega) ?_ | refine gi_mul ?_ | refine go_nx rfl ?_)
      first | refine gb_lt (by omega) (by omega) (fun c => ?_) (fun c => ?_) | refine gb_ge (by omega) (by omega) (fun c => ?_) (fun c => ?_) | refine gb_gt (by omega) (by omega) (fun c => ?_) (fun c => ?_) | refine gb_le (by omega) (by omega) (fun c => ?_) (fun c => ?_) | refine gb_eq (by omega) (by omega) (fun c => ?_) (fun c => ?_) | refine gb_ne (by omega) (by omega) (fun c => ?_) (fun c => ?_)
      · omega
      repeat (first | refine gi_con ?_ | refine gi_bip (Nat.le_of_ble_eq_true rfl) ?_ | refine gi_sip (Nat.le_of_ble_eq_true rfl) ?_ | refine gi_ldc ?_ | refine gi_add ?_ | refine gi_inc rfl ?_ | refine gi_sub (by omega) ?_ | refine gi_mul ?_ | refine go_nx rfl ?_)
      refine gm_get (.ref (ad 5)) rfl rfl ?_
      repeat (first | refine gi_con ?_ | refine gi_bip (Nat.le_of_ble_eq_true rfl) ?_ | refine gi_sip (Nat.le_of_ble_eq_true rfl) ?_ | refine gi_ldc ?_ | refine gi_add ?_ | refine gi_inc rfl ?_ | refine gi_sub (by omega) ?_ | refine gi_mul ?_ | refine go_nx rfl ?_)
      refine gm_bld hD (by decide) (Or.inr rfl) (show i < 8 from hi) (by decide) ?_
      rw [(hI1.2.2.2.2.2.2 i hi).1]
      first | refine gt_eq (fun c2 => ?_) (fun c2 => ?_) | refine gt_ne (fun c2 => ?_) (fun c2 => ?_)
      · repeat (first | refine gi_con ?_ | refine gi_bip (Nat.le_of_ble_eq_true rfl) ?_ | refine gi_sip (Nat.le_of_ble_eq_true rfl) ?_ | refine gi_ldc ?_ | refine gi_add ?_ | refine gi_inc rfl ?_ | refine gi_sub (by omega) ?_ | refine gi_mul ?_ | refine go_nx rfl ?_)
        refine go_jp rfl ?_
        exact four 0 _ I1 C1 hI1 (by rw [c2]; rfl)
      · repeat (first | refine gi_con ?_ | refine gi_bip (Nat.le_of_ble_eq_true rfl) ?_ | refine gi_sip (Nat.le_of_ble_eq_true rfl) ?_ | refine gi_ldc ?_ | refine gi_add ?_ | refine gi_inc rfl ?_ | refine gi_sub (by omega) ?_ | refine gi_mul ?_ | refine go_nx rfl ?_)
        refine go_step ?_
        refine g_callV (by decide) (by decide) (Nat.le_of_ble_eq_true rfl) (Nat.le_of_ble_eq_true rfl) mH_rcv (by omega) (Nat.le_of_ble_eq_true rfl) rfl ?_
        refine sp_mrank (by omega) hD hI1 (fun I2 C2 hI2 => ?_)
        repeat (first | refine gi_con ?_ | refine gi_bip (Nat.le_of_ble_eq_true rfl) ?_ | refine gi_sip (Nat.le_of_ble_eq_true rfl) ?_ | refine gi_ldc ?_ | refine gi_add ?_ | refine gi_inc rfl ?_ | refine gi_sub (by omega) ?_ | refine gi_mul ?_ | refine go_nx rfl ?_)
        refine go_jp rfl ?_
        exact four _ _ I2 C2 hI2 (by rw [c2]; rfl)
  repeat (first | refine gi_con ?_ | refine gi_bip (Nat.le_of_ble_eq_true rfl) ?_ | refine gi_sip (Nat.le_of_ble_eq_true rfl) ?_ | refine gi_ldc ?_ | refine gi_add ?_ | refine gi_inc rfl ?_ | refine gi_sub (by omega) ?_ | refine gi_mul ?_ | refine go_nx rfl ?_)
  refine gm_get (.int (q_t F.isSome)) rfl (by rw [← hI.2.2.2.2.1.1]; rfl) ?_
  first | refine gt_eq (fun c => ?_) (fun c => ?_) | refine gt_ne (fun c => ?_) (fun c => ?_)
  · rw [if_pos c] at hq
    repeat (first | refine gi_con ?_ | refine gi_bip (Nat.le_of_ble_eq_true rfl) ?_ | refine gi_sip (Nat.le_of_ble_eq_true rfl) ?_ | refine gi_ldc ?_ | refine gi_add ?_ | refine gi_inc rfl ?_ | refine gi_sub (by omega) ?_ | refine gi_mul ?_ | refine go_nx rfl ?_)
    refine go_jp rfl ?_
    exact loop 8 0 (-1) I C _ (by omega) hI hq
  · rw [c, if_neg (by decide)] at hq
    repeat (first | refine gi_con ?_ | refine gi_bip (Nat.le_of_ble_eq_true rfl) ?_ | refine gi_sip (Nat.le_of_ble_eq_true rfl) ?_ | refine gi_ldc ?_ | refine gi_add ?_ | refine gi_inc rfl ?_ | refine gi_sub (by omega) ?_ | refine gi_mul ?_ | refine go_nx rfl ?_)
    refine go_rt rfl ?_
    exact hq I C hI
theorem q_rf_side (r : qR) (high : Bool) {g : Nat} (hg : g < 4) : q_rf r ((if high = true then 4 else 0) + g) = q_ef (if high = true then r.2 else r.1) g := by
  unfold q_rf
  cases high with
  | true => rw [if_pos rfl, if_pos rfl, if_neg (by omega), Nat.add_sub_cancel_left]
  | false =>
    show (if 0 + g < 4 then q_ef r.1 (0 + g) else q_ef r.2 (0 + g - 4)) = q_ef r.1 g
    rw [Nat.zero_add, if_pos hg]
theorem sp_mend {i w k what : Int32} {high : Bool} (hd : 54 ≤ d) (hD : mD o ad) (hI : mInv R I C t F V X) (hq : ∀ I' C', mInv R I' C' t F V X → Q (some (.int (a_end F X i w k high what))) (mH h o ad I' C')) : mm_Go E d 165 (mm_blk 165 0) [.ref o, .int i, .int w, .int k, .int (q_t high), .int what, mm_un, mm_un, mm_un] [] (mH h o ad I C) Q := by
  have one : ∀ (I2 : Nat → Int32) (C2 : Nat → Nat → Int32), mInv R I2 C2 t F V X → a_end F X i w k high what = -2 → mm_Go E d 165 (mm_blk 165 1) [.ref o, .int i, .int w, .int k, .int (q_t high), .int what, mm_un, mm_un, mm_un] [] (mH h o ad I2 C2) Q := by
    intro I2 C2 hI2 e
    rw [e] at hq
    repeat (first | refine gi_con ?_ | refine gi_bip (Nat.le_of_ble_eq_true rfl) ?_ | refine gi_sip (Nat.le_of_ble_eq_true rfl) ?_ | refine gi_ldc ?_ | refine gi_add ?_ | refine gi_inc rfl ?_ | refine gi_sub (by omega) ?_ | refine gi_mul ?_ | refine go_nx rfl ?_)
    refine go_rt rfl ?_
    exact hq I2 C2 hI2
  unfold a_end at hq one
  repeat (first | refine gi_con ?_ | refine gi_bip (Nat.le_of_ble_eq_true rfl) ?_ | refine gi_sip (Nat.le_of_ble_eq_true rfl) ?_ | refine gi_ldc ?_ | refine gi_add ?_ | refine gi_inc rfl ?_ | refine gi_sub (by omega) ?_ | refine gi_mul ?_ | refine go_nx rfl ?_)
  refine go_step ?_
  refine g_callV (by decide) (by decide) (Nat.le_of_ble_eq_true rfl) (Nat.le_of_ble_eq_true rfl) mH_rcv (by omega) (Nat.le_of_ble_eq_true rfl) rfl ?_
  refine sp_misPathOf hD hI ?_
  cases hp : q_pth X i w with
  | none =>
    rw [hp] at one
    repeat (first | refine gi_con ?_ | refine gi_bip (Nat.le_of_ble_eq_true rfl) ?_ | refine gi_sip (Nat.le_of_ble_eq_true rfl) ?_ | refine gi_ldc ?_ | refine gi_add ?_ | refine gi_inc rfl ?_ | refine gi_sub (by omega) ?_ | refine gi_mul ?_ | refine go_nx rfl ?_)
    refine gt_eq (fun c => ?_) (fun c => by cases c)
    exact one I C hI rfl
  | some p =>
    cases hF : F with
    | none =>
      rw [hp, hF] at one
      rw [hF] at hI
      repeat (first | refine gi_con ?_ | refine gi_bip (Nat.le_of_ble_eq_true rfl) ?_ | refine gi_sip (Nat.le_of_ble_eq_true rfl) ?_ | refine gi_ldc ?_ | refine gi_add ?_ | refine gi_inc rfl ?_ | refine gi_sub (by omega) ?_ | refine gi_mul ?_ | refine go_nx rfl ?_)
      refine gt_eq (fun c => ?_) (fun c => by cases c)
      exact one I C hI rfl
    | some f =>
      rw [hp, hF] at one hq
      rw [hF] at hI
      dsimp only at one hq
      obtain ⟨ik, hik, rfl⟩ := q_pth_in hp
      repeat (first | refine gi_con ?_ | refine gi_bip (Nat.le_of_ble_eq_true rfl) ?_ | refine gi_sip (Nat.le_of_ble_eq_true rfl) ?_ | refine gi_ldc ?_ | refine gi_add ?_ | refine gi_inc rfl ?_ | refine gi_sub (by omega) ?_ | refine gi_mul ?_ | refine go_nx rfl ?_)
      refine gt_eq (fun c => by cases c) (fun c => ?_)
      repeat (first | refine gi_con ?_ | refine gi_bip (Nat.le_of_ble_eq_true rfl) ?_ | refine gi_sip (Nat.le_of_ble_eq_true rfl) ?_ | refine gi_ldc ?_ | refine gi_add ?_ | refine gi_inc rfl ?_ | refine gi_sub (by omega) ?_ | refine gi_mul ?_ | refine go_nx rfl ?_)
      refine gx_lt (fun c1 => ?_) (fun c1 => ?_)
      · exact one I C hI (by rw [if_pos (Or.inl c1)])
      repeat (first | refine gi_con ?_ | refine gi_bip (Nat.le_of_ble_eq_true rfl) ?_ | refine gi_sip (Nat.le_of_ble_eq_true rfl) ?_ | refine gi_ldc ?_ | refine gi_add ?_ | refine gi_inc rfl ?_ | refine gi_sub (by omega) ?_ | refine gi_mul ?_ | refine go_nx rfl ?_)
      refine gy_gt (fun c2 => ?_) (fun c2 => ?_)
      · exact one I C hI (by rw [if_pos (show what < 0 ∨ 3 < what from Or.inr c2)])
      rw [if_neg (show ¬ (what < 0 ∨ 3 < what) from fun q => q.elim c1 c2)] at hq one
      obtain ⟨wk, hwk, rfl⟩ : ∃ wk, wk < 4 ∧ what = nI wk := by
        rcases pk_ix what (n := 4) (by decide) with q | q | ⟨j, hj, rfl⟩
        · exact absurd q c1
        · refine absurd ?_ c2
          have h3 : nI 3 < nI 4 := by decide
          exact Int32.lt_of_lt_of_le h3 q
        · exact ⟨j, hj, rfl⟩
      repeat (first | refine gi_con ?_ | refine gi_bip (Nat.le_of_ble_eq_true rfl) ?_ | refine gi_sip (Nat.le_of_ble_eq_true rfl) ?_ | refine gi_ldc ?_ | refine gi_add ?_ | refine gi_inc rfl ?_ | refine gi_sub (by omega) ?_ | refine gi_mul ?_ | refine go_nx rfl ?_)
      refine go_step ?_
      refine g_callV (by decide) (by decide) (Nat.le_of_ble_eq_true rfl) (Nat.le_of_ble_eq_true rfl) mH_rcv (by omega) (Nat.le_of_ble_eq_true rfl) rfl ?_
      refine sp_mfindX (by omega) hD hI hik hp rfl (fun I2 C2 S2 hI2 hS2 hs2 => ?_)
      cases hl : q_find f.2 p with
      | none =>
        rw [hl] at one
        repeat (first | refine gi_con ?_ | refine gi_bip (Nat.le_of_ble_eq_true rfl) ?_ | refine gi_sip (Nat.le_of_ble_eq_true rfl) ?_ | refine gi_ldc ?_ | refine gi_add ?_ | refine gi_inc rfl ?_ | refine gi_sub (by omega) ?_ | refine gi_mul ?_ | refine go_nx rfl ?_)
        refine gt_eq (fun c => ?_) (fun c => by cases c)
        exact one I2 C2 hI2 rfl
      | some l =>
        rw [hl] at one hq
        dsimp only at one hq
        have hs2 := hs2 l hl
        obtain ⟨b1, b2, b3⟩ := hS2 0 (by decide)
        rw [hs2] at b1 b2 b3
        repeat (first | refine gi_con ?_ | refine gi_bip (Nat.le_of_ble_eq_true rfl) ?_ | refine gi_sip (Nat.le_of_ble_eq_true rfl) ?_ | refine gi_ldc ?_ | refine gi_add ?_ | refine gi_inc rfl ?_ | refine gi_sub (by omega) ?_ | refine gi_mul ?_ | refine go_nx rfl ?_)
        refine gt_eq (fun c => by cases c) (fun c => ?_)
        repeat (first | refine gi_con ?_ | refine gi_bip (Nat.le_of_ble_eq_true rfl) ?_ | refine gi_sip (Nat.le_of_ble_eq_true rfl) ?_ | refine gi_ldc ?_ | refine gi_add ?_ | refine gi_inc rfl ?_ | refine gi_sub (by omega) ?_ | refine gi_mul ?_ | refine go_nx rfl ?_)
        refine gx_lt (fun c3 => ?_) (fun c3 => ?_)
        · exact one I2 C2 hI2 (by rw [if_pos (Or.inl c3)])
        repeat (first | refine gi_con ?_ | refine gi_bip (Nat.le_of_ble_eq_true rfl) ?_ | refine gi_sip (Nat.le_of_ble_eq_true rfl) ?_ | refine gi_ldc ?_ | refine gi_add ?_ | refine gi_inc rfl ?_ | refine gi_sub (by omega) ?_ | refine gi_mul ?_ | refine go_nx rfl ?_)
        refine gm_get (.ref (ad 14)) rfl rfl ?_
        repeat (first | refine gi_con ?_ | refine gi_bip (Nat.le_of_ble_eq_true rfl) ?_ | refine gi_sip (Nat.le_of_ble_eq_true rfl) ?_ | refine gi_ldc ?_ | refine gi_add ?_ | refine gi_inc rfl ?_ | refine gi_sub (by omega) ?_ | refine gi_mul ?_ | refine go_nx rfl ?_)
        refine gm_ild hD (by decide) rfl (show 0 < 3 by decide) (by decide) ?_
        rw [b2]
        refine gy_lt (fun c4 => ?_) (fun c4 => ?_)
        · have c4' : ¬ nI l.length ≤ k := Int32.not_le.mpr c4
          rw [if_neg (fun q => q.elim c3 c4')] at hq
          obtain ⟨kk, hkk, rfl⟩ : ∃ kk, kk < l.length ∧ k = nI kk := by
            rcases pk_ix k (n := l.length) (by omega) with q | q | ⟨j, hj, rfl⟩
            · exact absurd q c3
            · exact absurd q c4'
            · exact ⟨j, hj, rfl⟩
          rw [nI_clamp (show kk < 2 ^ 31 by omega), nI_clamp (show wk < 2 ^ 31 by omega)] at hq
          have hI20 := hI2
          obtain ⟨h1, h2, -, h4, h5, h6, h7⟩ := hI2
          obtain ⟨hw, hfine⟩ := h5.2 f rfl
          obtain ⟨e1, e2⟩ := h7 ik hik
          have hp0 := hp
          rw [q_pth_at hik] at hp
          cases hx : X ik with
          | none => rw [hx] at hp; cases hp
          | some x =>
            rw [hx] at hp
            have hp : (if w = 0 then some (x.1, q_bit x.2.2 4, q_bit x.2.2 1) else if w = 1 ∧ 0 < x.2.1.1 then some (x.2.1, q_bit x.2.2 8, q_bit x.2.2 2) else none) = some p := hp
            obtain ⟨a1, a2, a3, a4, a5, a6, a7, a8, a9, a10⟩ := e2 x hx
            obtain ⟨-, -, n1, n2⟩ := q_and_bit x.2.2 a6
            have ten : ∀ (j : Nat) (x6 : Int32), j < l.length → j = (if p.2.2 = true then l.length - 1 - kk else kk) → mm_Go E d 165 (mm_blk 165 10) [.ref o, .int (nI ik), .int w, .int (nI kk), .int (q_t high), .int (nI wk), .int x6, .int (nI j), mm_un] [.int (nI (if high = true then 4 else 0))] (mH h o ad I2 C2) Q := by
              intro j x6 hj hjj
              rw [← hjj] at hq
              generalize hrow : l.getD j q_r0 = row at hq
              have hside : (if high = true then row.2 else row.1) = (if high = true then row.2 else row.1) := rfl
              generalize hsd : (if high = true then row.2 else row.1) = side at hq
              have hrok : q_okR f.2 f.1 row := by rw [← hrow]; exact q_find_ok hfine hl _ (getD_mem hj)
              have hsok : q_okE f.2 f.1 side := by
                rw [← hsd]
                split
                · exact hrok.2
                · exact hrok.1
              obtain ⟨s1, s2, s3, s4, s5⟩ := hsok
              have fld : ∀ (g : Nat) (Q' : Option Value → mmH → Prop), g < 4 → Q' (some (.int (q_ef side g))) (mH h o ad I2 C2) → mm_Go E (d - 1) 152 (mm_blk 152 0) [.ref o, .int (nI 0), .int (nI j), .int (nI ((if high = true then 4 else 0) + g))] [] (mH h o ad I2 C2) Q' := by
                intro g Q' hg hq'
                refine sp_mfield (s := 0) hD hS2 (by decide) (by rw [hs2]; exact hj) (by split <;> omega) ?_
                rw [hs2, hrow, q_rf_side row high hg, hsd]
                exact hq'
              unfold q_side at hq
              have hplace : side.2.1 = 1 → side.2.2.2 < 2 ^ 31 := by
                intro q
                obtain ⟨-, lev, -, hme⟩ := s5 q
                have := (q_me_ok hme).1
                have := hw.2.1
                omega
              repeat (first | refine gi_con ?_ | refine gi_bip (Nat.le_of_ble_eq_true rfl) ?_ | refine gi_sip (Nat.le_of_ble_eq_true rfl) ?_ | refine gi_ldc ?_ | refine gi_add ?_ | refine gi_inc rfl ?_ | refine gi_sub (by omega) ?_ | refine gi_mul ?_ | refine go_nx rfl ?_)
              first | refine gb_lt (by omega) (by omega) (fun c5 => ?_) (fun c5 => ?_) | refine gb_ge (by omega) (by omega) (fun c5 => ?_) (fun c5 => ?_) | refine gb_gt (by omega) (by omega) (fun c5 => ?_) (fun c5 => ?_) | refine gb_le (by omega) (by omega) (fun c5 => ?_) (fun c5 => ?_) | refine gb_eq (by omega) (by omega) (fun c5 => ?_) (fun c5 => ?_) | refine gb_ne (by omega) (by omega) (fun c5 => ?_) (fun c5 => ?_)
              · repeat (first | refine gi_con ?_ | refine gi_bip (Nat.le_of_ble_eq_true rfl) ?_ | refine gi_sip (Nat.le_of_ble_eq_true rfl) ?_ | refine gi_ldc ?_ | refine gi_add ?_ | refine gi_inc rfl ?_ | refine gi_sub (by omega) ?_ | refine gi_mul ?_ | refine go_nx rfl ?_)
                first | refine gb_lt (by omega) (by omega) (fun c6 => ?_) (fun c6 => ?_) | refine gb_ge (by omega) (by omega) (fun c6 => ?_) (fun c6 => ?_) | refine gb_gt (by omega) (by omega) (fun c6 => ?_) (fun c6 => ?_) | refine gb_le (by omega) (by omega) (fun c6 => ?_) (fun c6 => ?_) | refine gb_eq (by omega) (by omega) (fun c6 => ?_) (fun c6 => ?_) | refine gb_ne (by omega) (by omega) (fun c6 => ?_) (fun c6 => ?_)
                · repeat (first | refine gi_con ?_ | refine gi_bip (Nat.le_of_ble_eq_true rfl) ?_ | refine gi_sip (Nat.le_of_ble_eq_true rfl) ?_ | refine gi_ldc ?_ | refine gi_add ?_ | refine gi_inc rfl ?_ | refine gi_sub (by omega) ?_ | refine gi_mul ?_ | refine go_nx rfl ?_)
                  refine go_step ?_
                  refine g_callV (by decide) (by decide) (Nat.le_of_ble_eq_true rfl) (Nat.le_of_ble_eq_true rfl) mH_rcv (by omega) (Nat.le_of_ble_eq_true rfl) rfl ?_
                  refine fld wk _ hwk ?_
                  repeat (first | refine gi_con ?_ | refine gi_bip (Nat.le_of_ble_eq_true rfl) ?_ | refine gi_sip (Nat.le_of_ble_eq_true rfl) ?_ | refine gi_ldc ?_ | refine gi_add ?_ | refine gi_inc rfl ?_ | refine gi_sub (by omega) ?_ | refine gi_mul ?_ | refine go_nx rfl ?_)
                  refine go_rt rfl ?_
                  have : wk = 0 ∨ wk = 2 := by omega
                  rcases this with rfl | rfl
                  · exact hq I2 C2 hI20
                  · exact hq I2 C2 hI20
                · rw [if_neg (by omega), if_neg (by omega), if_neg (by omega)] at hq
                  repeat (first | refine gi_con ?_ | refine gi_bip (Nat.le_of_ble_eq_true rfl) ?_ | refine gi_sip (Nat.le_of_ble_eq_true rfl) ?_ | refine gi_ldc ?_ | refine gi_add ?_ | refine gi_inc rfl ?_ | refine gi_sub (by omega) ?_ | refine gi_mul ?_ | refine go_nx rfl ?_)
                  refine go_step ?_
                  refine g_callV (by decide) (by decide) (Nat.le_of_ble_eq_true rfl) (Nat.le_of_ble_eq_true rfl) mH_rcv (by omega) (Nat.le_of_ble_eq_true rfl) rfl ?_
                  refine fld 1 _ (by omega) ?_
                  rw [show q_ef side 1 = nI side.2.1 from rfl]
                  repeat (first | refine gi_con ?_ | refine gi_bip (Nat.le_of_ble_eq_true rfl) ?_ | refine gi_sip (Nat.le_of_ble_eq_true rfl) ?_ | refine gi_ldc ?_ | refine gi_add ?_ | refine gi_inc rfl ?_ | refine gi_sub (by omega) ?_ | refine gi_mul ?_ | refine go_nx rfl ?_)
                  first | refine gb_lt (by omega) (by omega) (fun c7 => ?_) (fun c7 => ?_) | refine gb_ge (by omega) (by omega) (fun c7 => ?_) (fun c7 => ?_) | refine gb_gt (by omega) (by omega) (fun c7 => ?_) (fun c7 => ?_) | refine gb_le (by omega) (by omega) (fun c7 => ?_) (fun c7 => ?_) | refine gb_eq (by omega) (by omega) (fun c7 => ?_) (fun c7 => ?_) | refine gb_ne (by omega) (by omega) (fun c7 => ?_) (fun c7 => ?_)
                  · rw [if_neg c7] at hq
                    repeat (first | refine gi_con ?_ | refine gi_bip (Nat.le_of_ble_eq_true rfl) ?_ | refine gi_sip (Nat.le_of_ble_eq_true rfl) ?_ | refine gi_ldc ?_ | refine gi_add ?_ | refine gi_inc rfl ?_ | refine gi_sub (by omega) ?_ | refine gi_mul ?_ | refine go_nx rfl ?_)
                    refine go_jp rfl ?_
                    refine go_rt rfl ?_
                    exact hq I2 C2 hI20
                  · rw [if_pos c7] at hq
                    repeat (first | refine gi_con ?_ | refine gi_bip (Nat.le_of_ble_eq_true rfl) ?_ | refine gi_sip (Nat.le_of_ble_eq_true rfl) ?_ | refine gi_ldc ?_ | refine gi_add ?_ | refine gi_inc rfl ?_ | refine gi_sub (by omega) ?_ | refine gi_mul ?_ | refine go_nx rfl ?_)
                    refine go_step ?_
                    refine g_callV (by decide) (by decide) (Nat.le_of_ble_eq_true rfl) (Nat.le_of_ble_eq_true rfl) mH_rcv (by omega) (Nat.le_of_ble_eq_true rfl) rfl ?_
                    refine fld 3 _ (by omega) ?_
                    rw [show q_ef side 3 = nI side.2.2.2 from by unfold q_ef; rw [if_neg (by decide), if_neg (by decide), if_neg (by decide), if_pos c7]]
                    repeat (first | refine gi_con ?_ | refine gi_bip (Nat.le_of_ble_eq_true rfl) ?_ | refine gi_sip (Nat.le_of_ble_eq_true rfl) ?_ | refine gi_ldc ?_ | refine gi_add ?_ | refine gi_inc rfl ?_ | refine gi_sub (by omega) ?_ | refine gi_mul ?_ | refine go_nx rfl ?_)
                    refine go_jp rfl ?_
                    refine go_rt rfl ?_
                    exact hq I2 C2 hI20
              · rw [if_neg (by omega), if_pos c5] at hq
                repeat (first | refine gi_con ?_ | refine gi_bip (Nat.le_of_ble_eq_true rfl) ?_ | refine gi_sip (Nat.le_of_ble_eq_true rfl) ?_ | refine gi_ldc ?_ | refine gi_add ?_ | refine gi_inc rfl ?_ | refine gi_sub (by omega) ?_ | refine gi_mul ?_ | refine go_nx rfl ?_)
                refine go_step ?_
                refine g_callV (by decide) (by decide) (Nat.le_of_ble_eq_true rfl) (Nat.le_of_ble_eq_true rfl) mH_rcv (by omega) (Nat.le_of_ble_eq_true rfl) rfl ?_
                refine fld 1 _ (by omega) ?_
                rw [show q_ef side 1 = nI side.2.1 from rfl]
                repeat (first | refine gi_con ?_ | refine gi_bip (Nat.le_of_ble_eq_true rfl) ?_ | refine gi_sip (Nat.le_of_ble_eq_true rfl) ?_ | refine gi_ldc ?_ | refine gi_add ?_ | refine gi_inc rfl ?_ | refine gi_sub (by omega) ?_ | refine gi_mul ?_ | refine go_nx rfl ?_)
                first | refine gb_lt (by omega) (by omega) (fun c7 => ?_) (fun c7 => ?_) | refine gb_ge (by omega) (by omega) (fun c7 => ?_) (fun c7 => ?_) | refine gb_gt (by omega) (by omega) (fun c7 => ?_) (fun c7 => ?_) | refine gb_le (by omega) (by omega) (fun c7 => ?_) (fun c7 => ?_) | refine gb_eq (by omega) (by omega) (fun c7 => ?_) (fun c7 => ?_) | refine gb_ne (by omega) (by omega) (fun c7 => ?_) (fun c7 => ?_)
                · rw [if_neg c7] at hq
                  repeat (first | refine gi_con ?_ | refine gi_bip (Nat.le_of_ble_eq_true rfl) ?_ | refine gi_sip (Nat.le_of_ble_eq_true rfl) ?_ | refine gi_ldc ?_ | refine gi_add ?_ | refine gi_inc rfl ?_ | refine gi_sub (by omega) ?_ | refine gi_mul ?_ | refine go_nx rfl ?_)
                  refine go_jp rfl ?_
                  refine go_rt rfl ?_
                  exact hq I2 C2 hI20
                · rw [if_pos c7] at hq
                  repeat (first | refine gi_con ?_ | refine gi_bip (Nat.le_of_ble_eq_true rfl) ?_ | refine gi_sip (Nat.le_of_ble_eq_true rfl) ?_ | refine gi_ldc ?_ | refine gi_add ?_ | refine gi_inc rfl ?_ | refine gi_sub (by omega) ?_ | refine gi_mul ?_ | refine go_nx rfl ?_)
                  refine go_jp rfl ?_
                  refine go_rt rfl ?_
                  exact hq I2 C2 hI20
            have eight : ∀ (j : Nat) (x6 : Int32), j < l.length → j = (if p.2.2 = true then l.length - 1 - kk else kk) → mm_Go E d 165 (mm_blk 165 8) [.ref o, .int (nI ik), .int w, .int (nI kk), .int (q_t high), .int (nI wk), .int x6, mm_un, mm_un] [.int (nI j)] (mH h o ad I2 C2) Q := by
              intro j x6 hj hjj
              have := ten j x6 hj hjj
              repeat (first | refine gi_con ?_ | refine gi_bip (Nat.le_of_ble_eq_true rfl) ?_ | refine gi_sip (Nat.le_of_ble_eq_true rfl) ?_ | refine gi_ldc ?_ | refine gi_add ?_ | refine gi_inc rfl ?_ | refine gi_sub (by omega) ?_ | refine gi_mul ?_ | refine go_nx rfl ?_)
              first | refine gt_eq (fun c5 => ?_) (fun c5 => ?_) | refine gt_ne (fun c5 => ?_) (fun c5 => ?_)
              · rw [c5, if_neg (by decide)] at this
                rw [c5]
                repeat (first | refine gi_con ?_ | refine gi_bip (Nat.le_of_ble_eq_true rfl) ?_ | refine gi_sip (Nat.le_of_ble_eq_true rfl) ?_ | refine gi_ldc ?_ | refine gi_add ?_ | refine gi_inc rfl ?_ | refine gi_sub (by omega) ?_ | refine gi_mul ?_ | refine go_nx rfl ?_)
                refine go_jp rfl ?_
                exact this
              · rw [c5, if_pos rfl] at this
                rw [c5]
                repeat (first | refine gi_con ?_ | refine gi_bip (Nat.le_of_ble_eq_true rfl) ?_ | refine gi_sip (Nat.le_of_ble_eq_true rfl) ?_ | refine gi_ldc ?_ | refine gi_add ?_ | refine gi_inc rfl ?_ | refine gi_sub (by omega) ?_ | refine gi_mul ?_ | refine go_nx rfl ?_)
                refine go_jp rfl ?_
                exact this
            have six : ∀ (dn : Bool), dn = p.2.2 → mm_Go E d 165 (mm_blk 165 6) [.ref o, .int (nI ik), .int w, .int (nI kk), .int (q_t high), .int (nI wk), mm_un, mm_un, mm_un] [.int (q_t dn)] (mH h o ad I2 C2) Q := by
              intro dn hdn
              repeat (first | refine gi_con ?_ | refine gi_bip (Nat.le_of_ble_eq_true rfl) ?_ | refine gi_sip (Nat.le_of_ble_eq_true rfl) ?_ | refine gi_ldc ?_ | refine gi_add ?_ | refine gi_inc rfl ?_ | refine gi_sub (by omega) ?_ | refine gi_mul ?_ | refine go_nx rfl ?_)
              first | refine gt_eq (fun c5 => ?_) (fun c5 => ?_) | refine gt_ne (fun c5 => ?_) (fun c5 => ?_)
              · repeat (first | refine gi_con ?_ | refine gi_bip (Nat.le_of_ble_eq_true rfl) ?_ | refine gi_sip (Nat.le_of_ble_eq_true rfl) ?_ | refine gi_ldc ?_ | refine gi_add ?_ | refine gi_inc rfl ?_ | refine gi_sub (by omega) ?_ | refine gi_mul ?_ | refine go_nx rfl ?_)
                refine go_jp rfl ?_
                exact eight kk _ hkk (by rw [← hdn, c5]; rfl)
              · repeat (first | refine gi_con ?_ | refine gi_bip (Nat.le_of_ble_eq_true rfl) ?_ | refine gi_sip (Nat.le_of_ble_eq_true rfl) ?_ | refine gi_ldc ?_ | refine gi_add ?_ | refine gi_inc rfl ?_ | refine gi_sub (by omega) ?_ | refine gi_mul ?_ | refine go_nx rfl ?_)
                refine gm_get (.ref (ad 14)) rfl rfl ?_
                repeat (first | refine gi_con ?_ | refine gi_bip (Nat.le_of_ble_eq_true rfl) ?_ | refine gi_sip (Nat.le_of_ble_eq_true rfl) ?_ | refine gi_ldc ?_ | refine gi_add ?_ | refine gi_inc rfl ?_ | refine gi_sub (by omega) ?_ | refine gi_mul ?_ | refine go_nx rfl ?_)
                refine gm_ild hD (by decide) rfl (show 0 < 3 by decide) (by decide) ?_
                rw [b2]
                repeat (first | refine gi_con ?_ | refine gi_bip (Nat.le_of_ble_eq_true rfl) ?_ | refine gi_sip (Nat.le_of_ble_eq_true rfl) ?_ | refine gi_ldc ?_ | refine gi_add ?_ | refine gi_inc rfl ?_ | refine gi_sub (by omega) ?_ | refine gi_mul ?_ | refine go_nx rfl ?_)
                refine go_jp rfl ?_
                exact eight (l.length - 1 - kk) _ (by omega) (by rw [← hdn, c5]; rfl)
            repeat (first | refine gi_con ?_ | refine gi_bip (Nat.le_of_ble_eq_true rfl) ?_ | refine gi_sip (Nat.le_of_ble_eq_true rfl) ?_ | refine gi_ldc ?_ | refine gi_add ?_ | refine gi_inc rfl ?_ | refine gi_sub (by omega) ?_ | refine gi_mul ?_ | refine go_nx rfl ?_)
            refine gm_get (.ref (ad 8)) rfl rfl ?_
            repeat (first | refine gi_con ?_ | refine gi_bip (Nat.le_of_ble_eq_true rfl) ?_ | refine gi_sip (Nat.le_of_ble_eq_true rfl) ?_ | refine gi_ldc ?_ | refine gi_add ?_ | refine gi_inc rfl ?_ | refine gi_sub (by omega) ?_ | refine gi_mul ?_ | refine go_nx rfl ?_)
            refine gm_ild hD (by decide) rfl (show ik < 8 from hik) (by decide) ?_
            rw [a3]
            repeat (first | refine gi_con ?_ | refine gi_bip (Nat.le_of_ble_eq_true rfl) ?_ | refine gi_sip (Nat.le_of_ble_eq_true rfl) ?_ | refine gi_ldc ?_ | refine gi_add ?_ | refine gi_inc rfl ?_ | refine gi_sub (by omega) ?_ | refine gi_mul ?_ | refine go_nx rfl ?_)
            refine gx_ne (fun c5 => ?_) (fun c5 => ?_)
            · rw [if_neg c5] at hp
              by_cases hw1 : w = 1 ∧ 0 < x.2.1.1
              · rw [if_pos hw1] at hp
                cases hp
                repeat (first | refine gi_con ?_ | refine gi_bip (Nat.le_of_ble_eq_true rfl) ?_ | refine gi_sip (Nat.le_of_ble_eq_true rfl) ?_ | refine gi_ldc ?_ | refine gi_add ?_ | refine gi_inc rfl ?_ | refine gi_sub (by omega) ?_ | refine gi_mul ?_ | refine go_nx rfl ?_)
                refine go_jp rfl ?_
                refine go_nx rfl ?_
                refine gx_le (fun c6 => ?_) (fun c6 => ?_)
                · repeat (first | refine gi_con ?_ | refine gi_bip (Nat.le_of_ble_eq_true rfl) ?_ | refine gi_sip (Nat.le_of_ble_eq_true rfl) ?_ | refine gi_ldc ?_ | refine gi_add ?_ | refine gi_inc rfl ?_ | refine gi_sub (by omega) ?_ | refine gi_mul ?_ | refine go_nx rfl ?_)
                  refine go_jp rfl ?_
                  exact six false (n2.mp c6).symm
                · repeat (first | refine gi_con ?_ | refine gi_bip (Nat.le_of_ble_eq_true rfl) ?_ | refine gi_sip (Nat.le_of_ble_eq_true rfl) ?_ | refine gi_ldc ?_ | refine gi_add ?_ | refine gi_inc rfl ?_ | refine gi_sub (by omega) ?_ | refine gi_mul ?_ | refine go_nx rfl ?_)
                  refine go_jp rfl ?_
                  refine six true ?_
                  cases hb : q_bit x.2.2 2 with
                  | true => rfl
                  | false => exact absurd (n2.mpr hb) c6
              · rw [if_neg hw1] at hp
                cases hp
            · rw [if_pos c5] at hp
              cases hp
              repeat (first | refine gi_con ?_ | refine gi_bip (Nat.le_of_ble_eq_true rfl) ?_ | refine gi_sip (Nat.le_of_ble_eq_true rfl) ?_ | refine gi_ldc ?_ | refine gi_add ?_ | refine gi_inc rfl ?_ | refine gi_sub (by omega) ?_ | refine gi_mul ?_ | refine go_nx rfl ?_)
              refine go_jp rfl ?_
              refine go_nx rfl ?_
              refine gx_le (fun c6 => ?_) (fun c6 => ?_)
              · repeat (first | refine gi_con ?_ | refine gi_bip (Nat.le_of_ble_eq_true rfl) ?_ | refine gi_sip (Nat.le_of_ble_eq_true rfl) ?_ | refine gi_ldc ?_ | refine gi_add ?_ | refine gi_inc rfl ?_ | refine gi_sub (by omega) ?_ | refine gi_mul ?_ | refine go_nx rfl ?_)
                refine go_jp rfl ?_
                exact six false (n1.mp c6).symm
              · repeat (first | refine gi_con ?_ | refine gi_bip (Nat.le_of_ble_eq_true rfl) ?_ | refine gi_sip (Nat.le_of_ble_eq_true rfl) ?_ | refine gi_ldc ?_ | refine gi_add ?_ | refine gi_inc rfl ?_ | refine gi_sub (by omega) ?_ | refine gi_mul ?_ | refine go_nx rfl ?_)
                refine go_jp rfl ?_
                refine six true ?_
                cases hb : q_bit x.2.2 1 with
                | true => rfl
                | false => exact absurd (n1.mpr hb) c6
        · refine go_jp rfl ?_
          exact one I2 C2 hI2 (by rw [if_pos (Or.inr (Int32.not_lt.mp c4))])
end M
