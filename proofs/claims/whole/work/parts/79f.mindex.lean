/-! THE COMMANDS: index -/
def q_ibad (t : qB) (i n m how : Int32) : Prop := i < 0 ∨ 7 < i ∨ n < 1 ∨ m < 0 ∨ (t.1 : Int) < n.toInt + m.toInt ∨ how < 0 ∨ 15 < how
def q_iok (t : qB) (n m how : Nat) : Bool := q_path (q_sub t.2 0 n) n && ((decide (m = 0) || q_path (q_sub t.2 n m) m) && (!decide (q_bytes (q_sub t.2 0 n) n (q_sub t.2 n m) m = 0) && !(decide (m = 0) && (q_bit how 2 || q_bit how 8))))
noncomputable def a_index (t : qB) (i n m how : Int32) : Int32 := have := Classical.propDecidable (q_ibad t i n m how); if q_ibad t i n m how then -1 else if q_iok t n.toNatClampNeg m.toNatClampNeg how.toNatClampNeg = true then 0 else -2
noncomputable def s_indexT (t : qB) (i n m how : Int32) : qB := have := Classical.propDecidable (q_ibad t i n m how); if q_ibad t i n m how then t else (0, t.2)
noncomputable def s_indexX (t : qB) (X : Nat → Option qX) (i n m how : Int32) : Nat → Option qX := have := Classical.propDecidable (q_ibad t i n m how); if q_ibad t i n m how then X else if q_iok t n.toNatClampNeg m.toNatClampNeg how.toNatClampNeg = true then uf X i.toNatClampNeg (some ((n.toNatClampNeg, q_sub t.2 0 n.toNatClampNeg), (m.toNatClampNeg, q_sub t.2 n.toNatClampNeg m.toNatClampNeg), how.toNatClampNeg)) else X
theorem q_and10 : ∀ how, how < 16 → (nI how &&& nI 10 ≤ 0 ↔ (q_bit how 2 || q_bit how 8) = false) := by decide +kernel
section IX
variable {t : qB} {X : Nat → Option qX} {i n m how : Int32}
theorem a_index_bad (hb : q_ibad t i n m how) : a_index t i n m how = -1 ∧ s_indexT t i n m how = t ∧ s_indexX t X i n m how = X := by
  unfold a_index s_indexT s_indexX
  exact ⟨if_pos hb, if_pos hb, if_pos hb⟩
theorem a_index_good {ik nk mk hk : Nat} (h1 : ik < 8) (h2 : 1 ≤ nk) (h3 : nk + mk ≤ t.1) (h4 : t.1 ≤ 2000) (h5 : hk < 16) : a_index t (nI ik) (nI nk) (nI mk) (nI hk) = (if q_iok t nk mk hk = true then 0 else -2) ∧ s_indexT t (nI ik) (nI nk) (nI mk) (nI hk) = (0, t.2) ∧ s_indexX t X (nI ik) (nI nk) (nI mk) (nI hk) = (if q_iok t nk mk hk = true then uf X ik (some ((nk, q_sub t.2 0 nk), (mk, q_sub t.2 nk mk), hk)) else X) := by
  have hb : ¬ q_ibad t (nI ik) (nI nk) (nI mk) (nI hk) := by
    intro q
    unfold q_ibad at q
    rcases q with q | q | q | q | q | q | q
    · exact nI_pos (by omega) q
    · exact absurd ((nI_ltI (a := 7) (by decide) (by omega)).mp q) (by omega)
    · exact absurd ((nI_ltI (b := 1) (by omega) (by decide)).mp q) (by omega)
    · exact nI_pos (by omega) q
    · rw [nI_toInt (by omega), nI_toInt (by omega)] at q
      omega
    · exact nI_pos (by omega) q
    · exact absurd ((nI_ltI (a := 15) (by decide) (by omega)).mp q) (by omega)
  unfold a_index s_indexT s_indexX
  refine ⟨?_, if_neg hb, ?_⟩
  · refine (if_neg hb).trans ?_
    rw [nI_clamp (by omega), nI_clamp (by omega), nI_clamp (by omega)]
  · refine (if_neg hb).trans ?_
    rw [nI_clamp (by omega), nI_clamp (by omega), nI_clamp (by omega), nI_clamp (by omega)]
end IX
theorem gl_gt {E : mmE} {d m pc : Nat} {is : List mmI} {L S : List Value} {h : mmH} {Q : Option Value → mmH → Prop} {ex : List Nat} {off : Int} {x y : Int64} (h1 : y < x → mm_Go E d m (mm_blk m (mm_k0 ex)) L S h Q) (h2 : ¬ y < x → mm_Go E d m is L S h Q) : mm_Go E d m ((pc, .ifCond .gt off, ex) :: is) L (.int (lg_cmp x y) :: S) h Q :=
  go_br (c := decide (0 < lg_cmp x y)) rfl (fun c => h1 ((lg_cmp_gt x y).mp (of_decide_eq_true c))) (fun c => h2 (by
    have c1 := of_decide_eq_false c
    rwa [lg_cmp_gt] at c1))
section M
variable {E : mmE} {d : Nat} {h : mmH} {Q : Option Value → mmH → Prop} {o : Nat} {ad : Nat → Nat} {I : Nat → Int32} {C : Nat → Nat → Int32} {R : Nat → Nat} {t : qB} {F V : Option qB} {X : Nat → Option qX}
theorem sp_mindex {i n m how : Int32} (hd : 10 ≤ d) (hD : mD o ad) (hI : mInv R I C t F V X) (hq : ∀ R' I' C', mInv R' I' C' (s_indexT t i n m how) F V (s_indexX t X i n m how) → Q (some (.int (a_index t i n m how))) (mH h o ad I' C')) : mm_Go E d 110 (mm_blk 110 0) [.ref o, .int i, .int n, .int m, .int how, mm_un, mm_un] [] (mH h o ad I C) Q := by
  have hI0 := hI
  obtain ⟨h1, h2, ⟨S, hS⟩, ⟨t1, t2, t3⟩, h5, h6, h7⟩ := hI
  have one : q_ibad t i n m how → mm_Go E d 110 (mm_blk 110 1) [.ref o, .int i, .int n, .int m, .int how, mm_un, mm_un] [] (mH h o ad I C) Q := by
    intro hb
    obtain ⟨e1, e2, e3⟩ := a_index_bad (X := X) hb
    rw [e1, e2, e3] at hq
    repeat (first | refine gi_con ?_ | refine gi_bip (Nat.le_of_ble_eq_true rfl) ?_ | refine gi_sip (Nat.le_of_ble_eq_true rfl) ?_ | refine gi_ldc ?_ | refine gi_add ?_ | refine gi_inc rfl ?_ | refine gi_sub (by omega) ?_ | refine gi_mul ?_ | refine go_nx rfl ?_)
    refine go_rt rfl ?_
    exact hq R I C hI0
  repeat (first | refine gi_con ?_ | refine gi_bip (Nat.le_of_ble_eq_true rfl) ?_ | refine gi_sip (Nat.le_of_ble_eq_true rfl) ?_ | refine gi_ldc ?_ | refine gi_add ?_ | refine gi_inc rfl ?_ | refine gi_sub (by omega) ?_ | refine gi_mul ?_ | refine go_nx rfl ?_)
  refine gx_lt (fun c1 => one (Or.inl c1)) (fun c1 => ?_)
  repeat (first | refine gi_con ?_ | refine gi_bip (Nat.le_of_ble_eq_true rfl) ?_ | refine gi_sip (Nat.le_of_ble_eq_true rfl) ?_ | refine gi_ldc ?_ | refine gi_add ?_ | refine gi_inc rfl ?_ | refine gi_sub (by omega) ?_ | refine gi_mul ?_ | refine go_nx rfl ?_)
  refine gy_gt (fun c2 => one (Or.inr (Or.inl c2))) (fun c2 => ?_)
  repeat (first | refine gi_con ?_ | refine gi_bip (Nat.le_of_ble_eq_true rfl) ?_ | refine gi_sip (Nat.le_of_ble_eq_true rfl) ?_ | refine gi_ldc ?_ | refine gi_add ?_ | refine gi_inc rfl ?_ | refine gi_sub (by omega) ?_ | refine gi_mul ?_ | refine go_nx rfl ?_)
  refine gy_lt (fun c3 => one (Or.inr (Or.inr (Or.inl c3)))) (fun c3 => ?_)
  repeat (first | refine gi_con ?_ | refine gi_bip (Nat.le_of_ble_eq_true rfl) ?_ | refine gi_sip (Nat.le_of_ble_eq_true rfl) ?_ | refine gi_ldc ?_ | refine gi_add ?_ | refine gi_inc rfl ?_ | refine gi_sub (by omega) ?_ | refine gi_mul ?_ | refine go_nx rfl ?_)
  refine gx_lt (fun c4 => one (Or.inr (Or.inr (Or.inr (Or.inl c4))))) (fun c4 => ?_)
  obtain ⟨ik, hik, rfl⟩ : ∃ k, k < 8 ∧ i = nI k := by
    rcases pk_ix i (n := 8) (by decide) with q | q | ⟨j, hj, rfl⟩
    · exact absurd q c1
    · refine absurd ?_ c2
      have h3 : nI 7 < nI 8 := by decide
      exact Int32.lt_of_lt_of_le h3 q
    · exact ⟨j, hj, rfl⟩
  have hn0 : ¬ n < 0 := fun q => c3 (Int32.lt_trans q (by decide))
  obtain ⟨nk, hnk, rfl⟩ := nI_of hn0
  obtain ⟨mk, hmk, rfl⟩ := nI_of c4
  have hn1 : 1 ≤ nk := by
    by_cases h0 : 1 ≤ nk
    · exact h0
    · exact absurd (show nI nk < nI 1 from nI_lt (by omega) (by decide)) c3
  repeat (first | refine gi_con ?_ | refine gi_bip (Nat.le_of_ble_eq_true rfl) ?_ | refine gi_sip (Nat.le_of_ble_eq_true rfl) ?_ | refine gi_ldc ?_ | refine gi_add ?_ | refine gi_inc rfl ?_ | refine gi_sub (by omega) ?_ | refine gi_mul ?_ | refine go_nx rfl ?_)
  refine gm_get (.int (nI t.1)) rfl (by rw [← t2]; rfl) ?_
  refine go_nx rfl ?_
  refine go_nx rfl ?_
  show mm_Go E d 110 _ _ [.int (lg_cmp ((nI nk).toInt64 + (nI mk).toInt64) (nI t.1).toInt64)] _ Q
  rw [nI_l hnk, nI_l hmk, nI_l (by omega), lN_add]
  refine gl_gt (fun c5 => one ?_) (fun c5 => ?_)
  · have := (pk_lLT (by omega) (by omega)).mp c5
    refine Or.inr (Or.inr (Or.inr (Or.inr (Or.inl ?_))))
    rw [nI_toInt hnk, nI_toInt hmk]
    omega
  have hsum : nk + mk ≤ t.1 := by
    by_cases hs : nk + mk ≤ t.1
    · exact hs
    · exact absurd ((pk_lLT (by omega) (by omega)).mpr (by omega)) c5
  repeat (first | refine gi_con ?_ | refine gi_bip (Nat.le_of_ble_eq_true rfl) ?_ | refine gi_sip (Nat.le_of_ble_eq_true rfl) ?_ | refine gi_ldc ?_ | refine gi_add ?_ | refine gi_inc rfl ?_ | refine gi_sub (by omega) ?_ | refine gi_mul ?_ | refine go_nx rfl ?_)
  refine gx_lt (fun c6 => one (Or.inr (Or.inr (Or.inr (Or.inr (Or.inr (Or.inl c6))))))) (fun c6 => ?_)
  repeat (first | refine gi_con ?_ | refine gi_bip (Nat.le_of_ble_eq_true rfl) ?_ | refine gi_sip (Nat.le_of_ble_eq_true rfl) ?_ | refine gi_ldc ?_ | refine gi_add ?_ | refine gi_inc rfl ?_ | refine gi_sub (by omega) ?_ | refine gi_mul ?_ | refine go_nx rfl ?_)
  refine gy_le (fun c7 => ?_) (fun c7 => ?_)
  rotate_left
  · refine go_jp rfl ?_
    exact one (Or.inr (Or.inr (Or.inr (Or.inr (Or.inr (Or.inr (Int32.not_le.mp c7)))))))
  obtain ⟨hk, hhk, rfl⟩ : ∃ k, k < 16 ∧ how = nI k := by
    rcases pk_ix how (n := 16) (by decide) with q | q | ⟨j, hj, rfl⟩
    · exact absurd q c6
    · exfalso
      have h3 : nI 15 < nI 16 := by decide
      exact Int32.not_le.mpr (Int32.lt_of_lt_of_le h3 q) c7
    · exact ⟨j, hj, rfl⟩
  clear one
  obtain ⟨e1, e2, e3⟩ := a_index_good (X := X) hik hn1 hsum t1 hhk
  rw [e1, e2, e3] at hq
  clear e1 e2 e3
  have hb1 : ∀ j, j < nk → t.2 (0 + j) < 256 := fun j hj => by rw [Nat.zero_add, ← t3 j (by omega)]; exact h2 _
  have hb2 : ∀ j, j < mk → t.2 (nk + j) < 256 := fun j hj => by rw [← t3 _ (by omega)]; exact h2 _
  have hr1 := q_sub_row (s := 0) (show nk ≤ 2000 by omega) hb1
  have hr2 := q_sub_row (s := nk) (show mk ≤ 2000 by omega) hb2
  have hw1 : ∀ j, j < nk → R (20000 + j) = q_sub t.2 0 nk j := fun j hj => by unfold q_sub; rw [if_pos hj, Nat.zero_add]; exact t3 j (by omega)
  have hw2 : ∀ j, j < mk → R (20000 + nk + j) = q_sub t.2 nk mk j := fun j hj => by unfold q_sub; rw [if_pos hj, Nat.add_assoc]; exact t3 _ (by omega)
  unfold q_iok at hq
  generalize hP1 : q_sub t.2 0 nk = P1 at hq hr1 hw1
  generalize hP2 : q_sub t.2 nk mk = P2 at hq hr2 hw2
  have inv0 : ∀ (I1 : Nat → Int32), I1 2 = nI 0 → I1 3 = I 3 → I1 4 = I 4 → mInv R I1 C (0, t.2) F V X := fun I1 i2 i3 i4 => ⟨h1, h2, ⟨S, hS⟩, ⟨by simp, i2, fun j hj => by simp at hj⟩, ⟨by rw [i3]; exact h5.1, h5.2⟩, ⟨by rw [i4]; exact h6.1, h6.2⟩, h7⟩
  have hst : mSt (mH h o ad (uf I 2 (nI 0)) C) o (ad 1) R := mH_st hD h1 h2
  have ten : ∀ (x5 : Bool) (x6 : Value), (q_path P1 nk && ((decide (mk = 0) || q_path P2 mk) && (!decide (q_bytes P1 nk P2 mk = 0) && !(decide (mk = 0) && (q_bit hk 2 || q_bit hk 8))))) = false → mm_Go E d 110 (mm_blk 110 10) [.ref o, .int (nI ik), .int (nI nk), .int (nI mk), .int (nI hk), .int (q_t x5), x6] [] (mH h o ad (uf I 2 (nI 0)) C) Q := by
    intro x5 x6 e
    rw [e, if_neg (by decide), if_neg (by decide)] at hq
    repeat (first | refine gi_con ?_ | refine gi_bip (Nat.le_of_ble_eq_true rfl) ?_ | refine gi_sip (Nat.le_of_ble_eq_true rfl) ?_ | refine gi_ldc ?_ | refine gi_add ?_ | refine gi_inc rfl ?_ | refine gi_sub (by omega) ?_ | refine gi_mul ?_ | refine go_nx rfl ?_)
    refine go_rt rfl ?_
    exact hq R _ C (inv0 _ rfl rfl rfl)
  have eleven : ∀ (x5 : Bool) (x6 : Value), (q_path P1 nk && ((decide (mk = 0) || q_path P2 mk) && (!decide (q_bytes P1 nk P2 mk = 0) && !(decide (mk = 0) && (q_bit hk 2 || q_bit hk 8))))) = true → mm_Go E d 110 (mm_blk 110 11) [.ref o, .int (nI ik), .int (nI nk), .int (nI mk), .int (nI hk), .int (q_t x5), x6] [] (mH h o ad (uf I 2 (nI 0)) C) Q := by
    intro x5 x6 e
    rw [e, if_pos rfl, if_pos rfl] at hq
    have loop : ∀ (m j : Nat) (C1 : Nat → Nat → Int32), m + j = nk + mk → (∀ x, x < 22100 → C1 1 x = sb_b (q_cp R (4000 + 2000 * ik) j x)) → (∀ x, x ≠ 1 → C1 x = C x) → mm_Go E d 110 (mm_blk 110 12) [.ref o, .int (nI ik), .int (nI nk), .int (nI mk), .int (nI hk), .int (q_t x5), .int (nI j)] [] (mH h o ad (uf I 2 (nI 0)) C1) Q := by
      intro m
      induction m with
      | zero =>
        intro j C1 hm hC1 hC1'
        have hj : j = nk + mk := by omega
        repeat (first | refine gi_con ?_ | refine gi_bip (Nat.le_of_ble_eq_true rfl) ?_ | refine gi_sip (Nat.le_of_ble_eq_true rfl) ?_ | refine gi_ldc ?_ | refine gi_add ?_ | refine gi_inc rfl ?_ | refine gi_sub (by omega) ?_ | refine gi_mul ?_ | refine go_nx rfl ?_)
        first | refine gb_lt (by omega) (by omega) (fun c8 => ?_) (fun c8 => ?_) | refine gb_ge (by omega) (by omega) (fun c8 => ?_) (fun c8 => ?_) | refine gb_gt (by omega) (by omega) (fun c8 => ?_) (fun c8 => ?_) | refine gb_le (by omega) (by omega) (fun c8 => ?_) (fun c8 => ?_) | refine gb_eq (by omega) (by omega) (fun c8 => ?_) (fun c8 => ?_) | refine gb_ne (by omega) (by omega) (fun c8 => ?_) (fun c8 => ?_)
        · repeat (first | refine gi_con ?_ | refine gi_bip (Nat.le_of_ble_eq_true rfl) ?_ | refine gi_sip (Nat.le_of_ble_eq_true rfl) ?_ | refine gi_ldc ?_ | refine gi_add ?_ | refine gi_inc rfl ?_ | refine gi_sub (by omega) ?_ | refine gi_mul ?_ | refine go_nx rfl ?_)
          refine gm_get (.ref (ad 5)) rfl rfl ?_
          repeat (first | refine gi_con ?_ | refine gi_bip (Nat.le_of_ble_eq_true rfl) ?_ | refine gi_sip (Nat.le_of_ble_eq_true rfl) ?_ | refine gi_ldc ?_ | refine gi_add ?_ | refine gi_inc rfl ?_ | refine gi_sub (by omega) ?_ | refine gi_mul ?_ | refine go_nx rfl ?_)
          refine gm_bst hD (by decide) (Or.inr rfl) (show ik < 8 from hik) (by decide) ?_
          repeat (first | refine gi_con ?_ | refine gi_bip (Nat.le_of_ble_eq_true rfl) ?_ | refine gi_sip (Nat.le_of_ble_eq_true rfl) ?_ | refine gi_ldc ?_ | refine gi_add ?_ | refine gi_inc rfl ?_ | refine gi_sub (by omega) ?_ | refine gi_mul ?_ | refine go_nx rfl ?_)
          refine gm_get (.ref (ad 6)) rfl rfl ?_
          repeat (first | refine gi_con ?_ | refine gi_bip (Nat.le_of_ble_eq_true rfl) ?_ | refine gi_sip (Nat.le_of_ble_eq_true rfl) ?_ | refine gi_ldc ?_ | refine gi_add ?_ | refine gi_inc rfl ?_ | refine gi_sub (by omega) ?_ | refine gi_mul ?_ | refine go_nx rfl ?_)
          refine gm_ist hD (by decide) rfl (show ik < 8 from hik) (by decide) ?_
          repeat (first | refine gi_con ?_ | refine gi_bip (Nat.le_of_ble_eq_true rfl) ?_ | refine gi_sip (Nat.le_of_ble_eq_true rfl) ?_ | refine gi_ldc ?_ | refine gi_add ?_ | refine gi_inc rfl ?_ | refine gi_sub (by omega) ?_ | refine gi_mul ?_ | refine go_nx rfl ?_)
          refine gm_get (.ref (ad 7)) rfl rfl ?_
          repeat (first | refine gi_con ?_ | refine gi_bip (Nat.le_of_ble_eq_true rfl) ?_ | refine gi_sip (Nat.le_of_ble_eq_true rfl) ?_ | refine gi_ldc ?_ | refine gi_add ?_ | refine gi_inc rfl ?_ | refine gi_sub (by omega) ?_ | refine gi_mul ?_ | refine go_nx rfl ?_)
          refine gm_ist hD (by decide) rfl (show ik < 8 from hik) (by decide) ?_
          repeat (first | refine gi_con ?_ | refine gi_bip (Nat.le_of_ble_eq_true rfl) ?_ | refine gi_sip (Nat.le_of_ble_eq_true rfl) ?_ | refine gi_ldc ?_ | refine gi_add ?_ | refine gi_inc rfl ?_ | refine gi_sub (by omega) ?_ | refine gi_mul ?_ | refine go_nx rfl ?_)
          refine gm_get (.ref (ad 8)) rfl rfl ?_
          repeat (first | refine gi_con ?_ | refine gi_bip (Nat.le_of_ble_eq_true rfl) ?_ | refine gi_sip (Nat.le_of_ble_eq_true rfl) ?_ | refine gi_ldc ?_ | refine gi_add ?_ | refine gi_inc rfl ?_ | refine gi_sub (by omega) ?_ | refine gi_mul ?_ | refine go_nx rfl ?_)
          refine gm_ist hD (by decide) rfl (show ik < 8 from hik) (by decide) ?_
          repeat (first | refine gi_con ?_ | refine gi_bip (Nat.le_of_ble_eq_true rfl) ?_ | refine gi_sip (Nat.le_of_ble_eq_true rfl) ?_ | refine gi_ldc ?_ | refine gi_add ?_ | refine gi_inc rfl ?_ | refine gi_sub (by omega) ?_ | refine gi_mul ?_ | refine go_nx rfl ?_)
          refine go_rt rfl ?_
          refine hq (q_cp R (4000 + 2000 * ik) j) _ _ ⟨fun x hx => ?_, q_cp_lt h2, ⟨S, fun r hr => ?_⟩, ⟨by simp, rfl, fun x hx => by simp at hx⟩, ⟨h5.1, fun f hf => ?_⟩, ⟨h6.1, fun f hf => ?_⟩, fun i hi => ?_⟩
          · rw [uf_ne (by decide), uf_ne (by decide), uf_ne (by decide), uf_ne (by decide)]
            exact hC1 x hx
          · rw [uf_ne (by decide), uf_ne (by decide), uf_ne (by decide), uf_ne (by decide), uf_ne (by decide), uf_ne (by decide), uf_ne (by decide), uf_ne (by decide), hC1' 14 (by decide), hC1' 15 (by decide)]
            exact hS r hr
          · obtain ⟨⟨w1, w2, w3⟩, w4⟩ := h5.2 f hf
            have := w3.1
            refine ⟨⟨fun x hx => ?_, w2, w3⟩, w4⟩
            unfold q_cp
            rw [if_neg (by omega)]
            exact w1 x hx
          · obtain ⟨⟨w1, w2, w3⟩, w4⟩ := h6.2 f hf
            have := w3.1
            refine ⟨⟨fun x hx => ?_, w2, w3⟩, w4⟩
            unfold q_cp
            rw [if_neg (by omega)]
            exact w1 x hx
          · unfold mIx
            rw [uf_ne (show (5 : Nat) ≠ 8 by decide), uf_ne (show (5 : Nat) ≠ 7 by decide), uf_ne (show (5 : Nat) ≠ 6 by decide), uf_at, uf_ne (show (6 : Nat) ≠ 8 by decide), uf_ne (show (6 : Nat) ≠ 7 by decide), uf_at, uf_ne (show (7 : Nat) ≠ 8 by decide), uf_at, uf_at]
            by_cases hii : i = ik
            · subst hii
              rw [uf_at, uf_at, uf_at, uf_at, uf_at]
              refine ⟨show mm_nar (mTag 5) (nI 1) = q_t true by decide, fun y hy => ?_⟩
              cases hy
              refine ⟨rfl, rfl, rfl, hn1, by show nk + mk ≤ 2000; omega, hhk, fun x hx => ?_, fun x hx => ?_, hr1.2.1, hr2.2.1⟩
              · have hx : x < nk := hx
                unfold q_cp
                rw [if_pos (by omega), show 4000 + 2000 * i + x - (4000 + 2000 * i) = x by omega]
                exact hw1 x hx
              · have hx : x < mk := hx
                show q_cp R (4000 + 2000 * i) j (4000 + 2000 * i + nk + x) = P2 x
                unfold q_cp
                rw [if_pos (by omega), show 4000 + 2000 * i + nk + x - (4000 + 2000 * i) = nk + x by omega, ← Nat.add_assoc]
                exact hw2 x hx
            · obtain ⟨f1, f2⟩ := h7 i hi
              rw [uf_ne hii, uf_ne hii, uf_ne hii, uf_ne hii, uf_ne hii, uf_ne (show (6 : Nat) ≠ 5 by decide), uf_ne (show (7 : Nat) ≠ 6 by decide), uf_ne (show (7 : Nat) ≠ 5 by decide), uf_ne (show (8 : Nat) ≠ 7 by decide), uf_ne (show (8 : Nat) ≠ 6 by decide), uf_ne (show (8 : Nat) ≠ 5 by decide), hC1' 5 (by decide), hC1' 6 (by decide), hC1' 7 (by decide), hC1' 8 (by decide)]
              refine ⟨f1, fun y hy => ?_⟩
              obtain ⟨a1, a2, a3, a4, a5, a6, a7, a8, a9, a10⟩ := f2 y hy
              refine ⟨a1, a2, a3, a4, a5, a6, fun x hx => ?_, fun x hx => ?_, a9, a10⟩
              · unfold q_cp
                rw [if_neg (by omega)]
                exact a7 x hx
              · unfold q_cp
                rw [if_neg (by omega)]
                exact a8 x hx
        · omega
      | succ m ih =>
        intro j C1 hm hC1 hC1'
        repeat (first | refine gi_con ?_ | refine gi_bip (Nat.le_of_ble_eq_true rfl) ?_ | refine gi_sip (Nat.le_of_ble_eq_true rfl) ?_ | refine gi_ldc ?_ | refine gi_add ?_ | refine gi_inc rfl ?_ | refine gi_sub (by omega) ?_ | refine gi_mul ?_ | refine go_nx rfl ?_)
        first | refine gb_lt (by omega) (by omega) (fun c8 => ?_) (fun c8 => ?_) | refine gb_ge (by omega) (by omega) (fun c8 => ?_) (fun c8 => ?_) | refine gb_gt (by omega) (by omega) (fun c8 => ?_) (fun c8 => ?_) | refine gb_le (by omega) (by omega) (fun c8 => ?_) (fun c8 => ?_) | refine gb_eq (by omega) (by omega) (fun c8 => ?_) (fun c8 => ?_) | refine gb_ne (by omega) (by omega) (fun c8 => ?_) (fun c8 => ?_)
        · omega
        repeat (first | refine gi_con ?_ | refine gi_bip (Nat.le_of_ble_eq_true rfl) ?_ | refine gi_sip (Nat.le_of_ble_eq_true rfl) ?_ | refine gi_ldc ?_ | refine gi_add ?_ | refine gi_inc rfl ?_ | refine gi_sub (by omega) ?_ | refine gi_mul ?_ | refine go_nx rfl ?_)
        refine gm_get (.ref (ad 1)) rfl rfl ?_
        repeat (first | refine gi_con ?_ | refine gi_bip (Nat.le_of_ble_eq_true rfl) ?_ | refine gi_sip (Nat.le_of_ble_eq_true rfl) ?_ | refine gi_ldc ?_ | refine gi_add ?_ | refine gi_inc rfl ?_ | refine gi_sub (by omega) ?_ | refine gi_mul ?_ | refine go_nx rfl ?_)
        refine gm_get (.ref (ad 1)) rfl rfl ?_
        repeat (first | refine gi_con ?_ | refine gi_bip (Nat.le_of_ble_eq_true rfl) ?_ | refine gi_sip (Nat.le_of_ble_eq_true rfl) ?_ | refine gi_ldc ?_ | refine gi_add ?_ | refine gi_inc rfl ?_ | refine gi_sub (by omega) ?_ | refine gi_mul ?_ | refine go_nx rfl ?_)
        refine gm_bld hD (by decide) (Or.inl rfl) (show 20000 + j < 22100 by omega) (by decide) ?_
        rw [hC1 _ (by omega), show q_cp R (4000 + 2000 * ik) j (20000 + j) = R (20000 + j) from by unfold q_cp; rw [if_neg (by omega)]]
        refine gm_bst hD (by decide) (Or.inl rfl) (show 4000 + 2000 * ik + j < 22100 by omega) (by decide) ?_
        rw [sb_nar]
        repeat (first | refine gi_con ?_ | refine gi_bip (Nat.le_of_ble_eq_true rfl) ?_ | refine gi_sip (Nat.le_of_ble_eq_true rfl) ?_ | refine gi_ldc ?_ | refine gi_add ?_ | refine gi_inc rfl ?_ | refine gi_sub (by omega) ?_ | refine gi_mul ?_ | refine go_nx rfl ?_)
        refine go_jp rfl ?_
        refine ih (j + 1) _ (by omega) (fun x hx => ?_) (fun x hx => by rw [uf_ne hx]; exact hC1' x hx)
        rw [uf_at, q_cp_s (by omega)]
        unfold uf
        by_cases hx0 : x = 4000 + 2000 * ik + j
        · rw [if_pos hx0, if_pos hx0]
        · rw [if_neg hx0, if_neg hx0]
          exact hC1 x hx
    repeat (first | refine gi_con ?_ | refine gi_bip (Nat.le_of_ble_eq_true rfl) ?_ | refine gi_sip (Nat.le_of_ble_eq_true rfl) ?_ | refine gi_ldc ?_ | refine gi_add ?_ | refine gi_inc rfl ?_ | refine gi_sub (by omega) ?_ | refine gi_mul ?_ | refine go_nx rfl ?_)
    refine go_jp rfl ?_
    exact loop (nk + mk) 0 C (by omega) (fun x hx => by rw [q_cp_0]; exact h1 x hx) (fun x _ => rfl)
  have eight : ∀ (s : Bool) (x6 : Value), s = decide (q_bytes P1 nk P2 mk = 0) → mm_Go E d 110 (mm_blk 110 8) [.ref o, .int (nI ik), .int (nI nk), .int (nI mk), .int (nI hk), .int (q_t s), x6] [] (mH h o ad (uf I 2 (nI 0)) C) Q := by
    intro s x6 hs
    rw [← hs] at ten eleven
    have nine : q_path P1 nk = true → (decide (mk = 0) || q_path P2 mk) = true → mm_Go E d 110 (mm_blk 110 9) [.ref o, .int (nI ik), .int (nI nk), .int (nI mk), .int (nI hk), .int (q_t s), x6] [] (mH h o ad (uf I 2 (nI 0)) C) Q := by
      intro g1 g2
      rw [g1, g2, Bool.true_and, Bool.true_and] at ten eleven
      repeat (first | refine gi_con ?_ | refine gi_bip (Nat.le_of_ble_eq_true rfl) ?_ | refine gi_sip (Nat.le_of_ble_eq_true rfl) ?_ | refine gi_ldc ?_ | refine gi_add ?_ | refine gi_inc rfl ?_ | refine gi_sub (by omega) ?_ | refine gi_mul ?_ | refine go_nx rfl ?_)
      first | refine gt_eq (fun c8 => ?_) (fun c8 => ?_) | refine gt_ne (fun c8 => ?_) (fun c8 => ?_)
      · exact ten _ _ (by rw [c8]; rfl)
      repeat (first | refine gi_con ?_ | refine gi_bip (Nat.le_of_ble_eq_true rfl) ?_ | refine gi_sip (Nat.le_of_ble_eq_true rfl) ?_ | refine gi_ldc ?_ | refine gi_add ?_ | refine gi_inc rfl ?_ | refine gi_sub (by omega) ?_ | refine gi_mul ?_ | refine go_nx rfl ?_)
      first | refine gz_eq (by omega) (fun c9 => ?_) (fun c9 => ?_) | refine gz_ne (by omega) (fun c9 => ?_) (fun c9 => ?_) | refine gz_le (by omega) (fun c9 => ?_) (fun c9 => ?_) | refine gz_gt (by omega) (fun c9 => ?_) (fun c9 => ?_) | refine gz_lt (by omega) (fun c9 => ?_) (fun c9 => ?_) | refine gz_ge (by omega) (fun c9 => ?_) (fun c9 => ?_)
      · exact eleven _ _ (by rw [c8, decide_eq_false (by omega)]; rfl)
      have h10 := q_and10 hk hhk
      repeat (first | refine gi_con ?_ | refine gi_bip (Nat.le_of_ble_eq_true rfl) ?_ | refine gi_sip (Nat.le_of_ble_eq_true rfl) ?_ | refine gi_ldc ?_ | refine gi_add ?_ | refine gi_inc rfl ?_ | refine gi_sub (by omega) ?_ | refine gi_mul ?_ | refine go_nx rfl ?_)
      refine gx_le (fun c10 => ?_) (fun c10 => ?_)
      · exact eleven _ _ (by rw [c8, h10.mp c10, Bool.and_false]; rfl)
      · refine go_jp rfl ?_
        refine ten _ _ ?_
        have : (q_bit hk 2 || q_bit hk 8) = true := by
          cases hb : (q_bit hk 2 || q_bit hk 8) with
          | true => rfl
          | false => exact absurd (h10.mpr hb) c10
        rw [this, decide_eq_true c9]
        simp
    repeat (first | refine gi_con ?_ | refine gi_bip (Nat.le_of_ble_eq_true rfl) ?_ | refine gi_sip (Nat.le_of_ble_eq_true rfl) ?_ | refine gi_ldc ?_ | refine gi_add ?_ | refine gi_inc rfl ?_ | refine gi_sub (by omega) ?_ | refine gi_mul ?_ | refine go_nx rfl ?_)
    refine go_step ?_
    refine g_callV (by decide) (by decide) (Nat.le_of_ble_eq_true rfl) (Nat.le_of_ble_eq_true rfl) mH_rcv (by omega) (Nat.le_of_ble_eq_true rfl) rfl ?_
    refine sp_mpath (by omega) hst hw1 (by omega) hr1.2.1 ?_
    repeat (first | refine gi_con ?_ | refine gi_bip (Nat.le_of_ble_eq_true rfl) ?_ | refine gi_sip (Nat.le_of_ble_eq_true rfl) ?_ | refine gi_ldc ?_ | refine gi_add ?_ | refine gi_inc rfl ?_ | refine gi_sub (by omega) ?_ | refine gi_mul ?_ | refine go_nx rfl ?_)
    first | refine gt_eq (fun c8 => ?_) (fun c8 => ?_) | refine gt_ne (fun c8 => ?_) (fun c8 => ?_)
    · exact ten _ _ (by rw [c8]; rfl)
    repeat (first | refine gi_con ?_ | refine gi_bip (Nat.le_of_ble_eq_true rfl) ?_ | refine gi_sip (Nat.le_of_ble_eq_true rfl) ?_ | refine gi_ldc ?_ | refine gi_add ?_ | refine gi_inc rfl ?_ | refine gi_sub (by omega) ?_ | refine gi_mul ?_ | refine go_nx rfl ?_)
    first | refine gz_eq (by omega) (fun c9 => ?_) (fun c9 => ?_) | refine gz_ne (by omega) (fun c9 => ?_) (fun c9 => ?_) | refine gz_le (by omega) (fun c9 => ?_) (fun c9 => ?_) | refine gz_gt (by omega) (fun c9 => ?_) (fun c9 => ?_) | refine gz_lt (by omega) (fun c9 => ?_) (fun c9 => ?_) | refine gz_ge (by omega) (fun c9 => ?_) (fun c9 => ?_)
    · exact nine c8 (by rw [decide_eq_true c9]; rfl)
    repeat (first | refine gi_con ?_ | refine gi_bip (Nat.le_of_ble_eq_true rfl) ?_ | refine gi_sip (Nat.le_of_ble_eq_true rfl) ?_ | refine gi_ldc ?_ | refine gi_add ?_ | refine gi_inc rfl ?_ | refine gi_sub (by omega) ?_ | refine gi_mul ?_ | refine go_nx rfl ?_)
    refine go_step ?_
    refine g_callV (by decide) (by decide) (Nat.le_of_ble_eq_true rfl) (Nat.le_of_ble_eq_true rfl) mH_rcv (by omega) (Nat.le_of_ble_eq_true rfl) rfl ?_
    refine sp_mpath (by omega) hst hw2 (by omega) hr2.2.1 ?_
    repeat (first | refine gi_con ?_ | refine gi_bip (Nat.le_of_ble_eq_true rfl) ?_ | refine gi_sip (Nat.le_of_ble_eq_true rfl) ?_ | refine gi_ldc ?_ | refine gi_add ?_ | refine gi_inc rfl ?_ | refine gi_sub (by omega) ?_ | refine gi_mul ?_ | refine go_nx rfl ?_)
    first | refine gt_eq (fun c10 => ?_) (fun c10 => ?_) | refine gt_ne (fun c10 => ?_) (fun c10 => ?_)
    · exact ten _ _ (by rw [c10, decide_eq_false (show ¬ mk = 0 by omega)]; simp)
    · refine go_jp rfl ?_
      exact nine c8 (by rw [c10, Bool.or_true])
  have loop5 : ∀ (m j : Nat), m + j = nk → nk = mk → (∀ x, x < j → P1 x = P2 x) → mm_Go E d 110 (mm_blk 110 5) [.ref o, .int (nI ik), .int (nI nk), .int (nI mk), .int (nI hk), .int (q_t true), .int (nI j)] [] (mH h o ad (uf I 2 (nI 0)) C) Q := by
    intro m
    induction m with
    | zero =>
      intro j hm he hj
      repeat (first | refine gi_con ?_ | refine gi_bip (Nat.le_of_ble_eq_true rfl) ?_ | refine gi_sip (Nat.le_of_ble_eq_true rfl) ?_ | refine gi_ldc ?_ | refine gi_add ?_ | refine gi_inc rfl ?_ | refine gi_sub (by omega) ?_ | refine gi_mul ?_ | refine go_nx rfl ?_)
      first | refine gb_lt (by omega) (by omega) (fun c8 => ?_) (fun c8 => ?_) | refine gb_ge (by omega) (by omega) (fun c8 => ?_) (fun c8 => ?_) | refine gb_gt (by omega) (by omega) (fun c8 => ?_) (fun c8 => ?_) | refine gb_le (by omega) (by omega) (fun c8 => ?_) (fun c8 => ?_) | refine gb_eq (by omega) (by omega) (fun c8 => ?_) (fun c8 => ?_) | refine gb_ne (by omega) (by omega) (fun c8 => ?_) (fun c8 => ?_)
      · exact eight true _ (by rw [decide_eq_true (q_bytes_0.mpr ⟨he, fun x hx => hj x (by omega)⟩)])
      · omega
    | succ m ih =>
      intro j hm he hj
      have g1 := hr1.2.1 j
      have g2 := hr2.2.1 j
      repeat (first | refine gi_con ?_ | refine gi_bip (Nat.le_of_ble_eq_true rfl) ?_ | refine gi_sip (Nat.le_of_ble_eq_true rfl) ?_ | refine gi_ldc ?_ | refine gi_add ?_ | refine gi_inc rfl ?_ | refine gi_sub (by omega) ?_ | refine gi_mul ?_ | refine go_nx rfl ?_)
      first | refine gb_lt (by omega) (by omega) (fun c8 => ?_) (fun c8 => ?_) | refine gb_ge (by omega) (by omega) (fun c8 => ?_) (fun c8 => ?_) | refine gb_gt (by omega) (by omega) (fun c8 => ?_) (fun c8 => ?_) | refine gb_le (by omega) (by omega) (fun c8 => ?_) (fun c8 => ?_) | refine gb_eq (by omega) (by omega) (fun c8 => ?_) (fun c8 => ?_) | refine gb_ne (by omega) (by omega) (fun c8 => ?_) (fun c8 => ?_)
      · omega
      repeat (first | refine gi_con ?_ | refine gi_bip (Nat.le_of_ble_eq_true rfl) ?_ | refine gi_sip (Nat.le_of_ble_eq_true rfl) ?_ | refine gi_ldc ?_ | refine gi_add ?_ | refine gi_inc rfl ?_ | refine gi_sub (by omega) ?_ | refine gi_mul ?_ | refine go_nx rfl ?_)
      refine gt_eq (fun c => by cases c) (fun _ => ?_)
      repeat (first | refine gi_con ?_ | refine gi_bip (Nat.le_of_ble_eq_true rfl) ?_ | refine gi_sip (Nat.le_of_ble_eq_true rfl) ?_ | refine gi_ldc ?_ | refine gi_add ?_ | refine gi_inc rfl ?_ | refine gi_sub (by omega) ?_ | refine gi_mul ?_ | refine go_nx rfl ?_)
      refine gm_gs hst rfl ?_
      repeat (first | refine gi_con ?_ | refine gi_bip (Nat.le_of_ble_eq_true rfl) ?_ | refine gi_sip (Nat.le_of_ble_eq_true rfl) ?_ | refine gi_ldc ?_ | refine gi_add ?_ | refine gi_inc rfl ?_ | refine gi_sub (by omega) ?_ | refine gi_mul ?_ | refine go_nx rfl ?_)
      refine gm_ld hst (by omega) ?_
      rw [hw1 j (by omega)]
      repeat (first | refine gi_con ?_ | refine gi_bip (Nat.le_of_ble_eq_true rfl) ?_ | refine gi_sip (Nat.le_of_ble_eq_true rfl) ?_ | refine gi_ldc ?_ | refine gi_add ?_ | refine gi_inc rfl ?_ | refine gi_sub (by omega) ?_ | refine gi_mul ?_ | refine go_nx rfl ?_)
      refine gm_gs hst rfl ?_
      repeat (first | refine gi_con ?_ | refine gi_bip (Nat.le_of_ble_eq_true rfl) ?_ | refine gi_sip (Nat.le_of_ble_eq_true rfl) ?_ | refine gi_ldc ?_ | refine gi_add ?_ | refine gi_inc rfl ?_ | refine gi_sub (by omega) ?_ | refine gi_mul ?_ | refine go_nx rfl ?_)
      refine gm_ld hst (by omega) ?_
      rw [hw2 j (by omega)]
      refine gs_bne g1 g2 (fun c9 => ?_) (fun c9 => ?_)
      · have hne : ¬ q_bytes P1 nk P2 mk = 0 := fun q => c9 ((q_bytes_0.mp q).2 j (by omega))
        have hstop : mm_Go E d 110 (mm_blk 110 5) [.ref o, .int (nI ik), .int (nI nk), .int (nI mk), .int (nI hk), .int (q_t false), .int (nI (j + 1))] [] (mH h o ad (uf I 2 (nI 0)) C) Q := by
          repeat (first | refine gi_con ?_ | refine gi_bip (Nat.le_of_ble_eq_true rfl) ?_ | refine gi_sip (Nat.le_of_ble_eq_true rfl) ?_ | refine gi_ldc ?_ | refine gi_add ?_ | refine gi_inc rfl ?_ | refine gi_sub (by omega) ?_ | refine gi_mul ?_ | refine go_nx rfl ?_)
          first | refine gb_lt (by omega) (by omega) (fun c10 => ?_) (fun c10 => ?_) | refine gb_ge (by omega) (by omega) (fun c10 => ?_) (fun c10 => ?_) | refine gb_gt (by omega) (by omega) (fun c10 => ?_) (fun c10 => ?_) | refine gb_le (by omega) (by omega) (fun c10 => ?_) (fun c10 => ?_) | refine gb_eq (by omega) (by omega) (fun c10 => ?_) (fun c10 => ?_) | refine gb_ne (by omega) (by omega) (fun c10 => ?_) (fun c10 => ?_)
          · exact eight false _ (decide_eq_false hne).symm
          repeat (first | refine gi_con ?_ | refine gi_bip (Nat.le_of_ble_eq_true rfl) ?_ | refine gi_sip (Nat.le_of_ble_eq_true rfl) ?_ | refine gi_ldc ?_ | refine gi_add ?_ | refine gi_inc rfl ?_ | refine gi_sub (by omega) ?_ | refine gi_mul ?_ | refine go_nx rfl ?_)
          refine gt_eq (fun _ => ?_) (fun c => by cases c)
          exact eight false _ (decide_eq_false hne).symm
        repeat (first | refine gi_con ?_ | refine gi_bip (Nat.le_of_ble_eq_true rfl) ?_ | refine gi_sip (Nat.le_of_ble_eq_true rfl) ?_ | refine gi_ldc ?_ | refine gi_add ?_ | refine gi_inc rfl ?_ | refine gi_sub (by omega) ?_ | refine gi_mul ?_ | refine go_nx rfl ?_)
        refine go_jp rfl ?_
        repeat (first | refine gi_con ?_ | refine gi_bip (Nat.le_of_ble_eq_true rfl) ?_ | refine gi_sip (Nat.le_of_ble_eq_true rfl) ?_ | refine gi_ldc ?_ | refine gi_add ?_ | refine gi_inc rfl ?_ | refine gi_sub (by omega) ?_ | refine gi_mul ?_ | refine go_nx rfl ?_)
        refine go_jp rfl ?_
        exact hstop
      · repeat (first | refine gi_con ?_ | refine gi_bip (Nat.le_of_ble_eq_true rfl) ?_ | refine gi_sip (Nat.le_of_ble_eq_true rfl) ?_ | refine gi_ldc ?_ | refine gi_add ?_ | refine gi_inc rfl ?_ | refine gi_sub (by omega) ?_ | refine gi_mul ?_ | refine go_nx rfl ?_)
        refine go_jp rfl ?_
        repeat (first | refine gi_con ?_ | refine gi_bip (Nat.le_of_ble_eq_true rfl) ?_ | refine gi_sip (Nat.le_of_ble_eq_true rfl) ?_ | refine gi_ldc ?_ | refine gi_add ?_ | refine gi_inc rfl ?_ | refine gi_sub (by omega) ?_ | refine gi_mul ?_ | refine go_nx rfl ?_)
        refine go_jp rfl ?_
        refine ih (j + 1) (by omega) he (fun x hx => ?_)
        by_cases hxj : x = j
        · rw [hxj]; exact c9
        · exact hj x (by omega)
  repeat (first | refine gi_con ?_ | refine gi_bip (Nat.le_of_ble_eq_true rfl) ?_ | refine gi_sip (Nat.le_of_ble_eq_true rfl) ?_ | refine gi_ldc ?_ | refine gi_add ?_ | refine gi_inc rfl ?_ | refine gi_sub (by omega) ?_ | refine gi_mul ?_ | refine go_nx rfl ?_)
  refine gm_put 2 rfl rfl (by decide) rfl ?_
  repeat (first | refine gi_con ?_ | refine gi_bip (Nat.le_of_ble_eq_true rfl) ?_ | refine gi_sip (Nat.le_of_ble_eq_true rfl) ?_ | refine gi_ldc ?_ | refine gi_add ?_ | refine gi_inc rfl ?_ | refine gi_sub (by omega) ?_ | refine gi_mul ?_ | refine go_nx rfl ?_)
  first | refine gb_lt (by omega) (by omega) (fun c8 => ?_) (fun c8 => ?_) | refine gb_ge (by omega) (by omega) (fun c8 => ?_) (fun c8 => ?_) | refine gb_gt (by omega) (by omega) (fun c8 => ?_) (fun c8 => ?_) | refine gb_le (by omega) (by omega) (fun c8 => ?_) (fun c8 => ?_) | refine gb_eq (by omega) (by omega) (fun c8 => ?_) (fun c8 => ?_) | refine gb_ne (by omega) (by omega) (fun c8 => ?_) (fun c8 => ?_)
  · have hne : ¬ q_bytes P1 nk P2 mk = 0 := fun q => c8 (q_bytes_0.mp q).1
    repeat (first | refine gi_con ?_ | refine gi_bip (Nat.le_of_ble_eq_true rfl) ?_ | refine gi_sip (Nat.le_of_ble_eq_true rfl) ?_ | refine gi_ldc ?_ | refine gi_add ?_ | refine gi_inc rfl ?_ | refine gi_sub (by omega) ?_ | refine gi_mul ?_ | refine go_nx rfl ?_)
    refine go_jp rfl ?_
    repeat (first | refine gi_con ?_ | refine gi_bip (Nat.le_of_ble_eq_true rfl) ?_ | refine gi_sip (Nat.le_of_ble_eq_true rfl) ?_ | refine gi_ldc ?_ | refine gi_add ?_ | refine gi_inc rfl ?_ | refine gi_sub (by omega) ?_ | refine gi_mul ?_ | refine go_nx rfl ?_)
    refine go_jp rfl ?_
    repeat (first | refine gi_con ?_ | refine gi_bip (Nat.le_of_ble_eq_true rfl) ?_ | refine gi_sip (Nat.le_of_ble_eq_true rfl) ?_ | refine gi_ldc ?_ | refine gi_add ?_ | refine gi_inc rfl ?_ | refine gi_sub (by omega) ?_ | refine gi_mul ?_ | refine go_nx rfl ?_)
    first | refine gb_lt (by omega) (by omega) (fun c9 => ?_) (fun c9 => ?_) | refine gb_ge (by omega) (by omega) (fun c9 => ?_) (fun c9 => ?_) | refine gb_gt (by omega) (by omega) (fun c9 => ?_) (fun c9 => ?_) | refine gb_le (by omega) (by omega) (fun c9 => ?_) (fun c9 => ?_) | refine gb_eq (by omega) (by omega) (fun c9 => ?_) (fun c9 => ?_) | refine gb_ne (by omega) (by omega) (fun c9 => ?_) (fun c9 => ?_)
    · exact eight false _ (decide_eq_false hne).symm
    repeat (first | refine gi_con ?_ | refine gi_bip (Nat.le_of_ble_eq_true rfl) ?_ | refine gi_sip (Nat.le_of_ble_eq_true rfl) ?_ | refine gi_ldc ?_ | refine gi_add ?_ | refine gi_inc rfl ?_ | refine gi_sub (by omega) ?_ | refine gi_mul ?_ | refine go_nx rfl ?_)
    refine gt_eq (b := false) (fun _ => ?_) (fun c => by cases c)
    exact eight false _ (decide_eq_false hne).symm
  · repeat (first | refine gi_con ?_ | refine gi_bip (Nat.le_of_ble_eq_true rfl) ?_ | refine gi_sip (Nat.le_of_ble_eq_true rfl) ?_ | refine gi_ldc ?_ | refine gi_add ?_ | refine gi_inc rfl ?_ | refine gi_sub (by omega) ?_ | refine gi_mul ?_ | refine go_nx rfl ?_)
    refine go_jp rfl ?_
    repeat (first | refine gi_con ?_ | refine gi_bip (Nat.le_of_ble_eq_true rfl) ?_ | refine gi_sip (Nat.le_of_ble_eq_true rfl) ?_ | refine gi_ldc ?_ | refine gi_add ?_ | refine gi_inc rfl ?_ | refine gi_sub (by omega) ?_ | refine gi_mul ?_ | refine go_nx rfl ?_)
    refine go_jp rfl ?_
    exact loop5 nk 0 (by omega) c8 (fun x hx => by omega)
end M
