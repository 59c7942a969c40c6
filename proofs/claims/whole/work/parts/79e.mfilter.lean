/-! THE COMMANDS: filter, value -/
def q_sub (τ : Nat → Nat) (s n : Nat) : Nat → Nat := fun j => if j < n then τ (s + j) else 0
def q_bad (t : qB) (n : Int32) : Prop := n < 0 ∨ nI t.1 < n
def s_take (t : qB) (n : Int32) : qB := if n < 0 ∨ nI t.1 < n then t else (0, t.2)
def a_filter (t : qB) (n : Int32) : Int32 := if n < 0 ∨ nI t.1 < n then -2 else if q_doc (q_sub t.2 0 n.toNatClampNeg) n.toNatClampNeg = false then -1 else nI (q_flt (q_sub t.2 0 n.toNatClampNeg) 16 false 0 0).1
def s_filter (t : qB) (F : Option qB) (n : Int32) : Option qB := if n < 0 ∨ nI t.1 < n then F else if q_doc (q_sub t.2 0 n.toNatClampNeg) n.toNatClampNeg = true ∧ (q_flt (q_sub t.2 0 n.toNatClampNeg) 16 false 0 0).1 = 0 then some (n.toNatClampNeg, q_sub t.2 0 n.toNatClampNeg) else none
def a_value (t : qB) (n : Int32) : Int32 := if n < 0 ∨ nI t.1 < n then -2 else if q_doc (q_sub t.2 0 n.toNatClampNeg) n.toNatClampNeg = true ∧ 5 < n.toNatClampNeg then nI (q_sub t.2 0 n.toNatClampNeg 4) else -1
def s_value (t : qB) (V : Option qB) (n : Int32) : Option qB := if n < 0 ∨ nI t.1 < n then V else if q_doc (q_sub t.2 0 n.toNatClampNeg) n.toNatClampNeg = true ∧ 5 < n.toNatClampNeg then some (n.toNatClampNeg, q_sub t.2 0 n.toNatClampNeg) else none
/-- n bytes of the tape are put from b on -/
def q_cp (R : Nat → Nat) (b k : Nat) : Nat → Nat := fun j => if b ≤ j ∧ j < b + k then R (20000 + (j - b)) else R j
theorem q_cp_lt {R : Nat → Nat} {b k : Nat} (hR : ∀ j, R j < 256) (j : Nat) : q_cp R b k j < 256 := by
  unfold q_cp
  split <;> exact hR _
theorem q_cp_s {R : Nat → Nat} {b k : Nat} (hb : b + k < 20000) : q_cp R b (k + 1) = uf (q_cp R b k) (b + k) (R (20000 + k)) := by
  funext j
  unfold q_cp uf
  by_cases h : j = b + k
  · rw [if_pos h, if_pos (by omega), show j - b = k by omega]
  · rw [if_neg h]
    exact if_cg ⟨fun q => by omega, fun q => by omega⟩
theorem q_cp_0 {R : Nat → Nat} {b : Nat} : q_cp R b 0 = R := by
  funext j
  unfold q_cp
  rw [if_neg (by omega)]
section M
variable {E : mmE} {d : Nat} {h : mmH} {Q : Option Value → mmH → Prop} {o : Nat} {ad : Nat → Nat} {I : Nat → Int32} {C : Nat → Nat → Int32} {R : Nat → Nat} {t : qB} {F V : Option qB} {X : Nat → Option qX}
theorem q_sub_row {τ : Nat → Nat} {s n : Nat} (hn : n ≤ 2000) (h : ∀ j, j < n → τ (s + j) < 256) : q_row (q_sub τ s n) n := by
  refine ⟨hn, fun j => ?_, fun j hj => if_neg (by omega)⟩
  unfold q_sub
  split
  · exact h j ‹_›
  · decide
theorem mInv_W {n : Nat} (hI : mInv R I C t F V X) (hn : n ≤ t.1) : mW R 20000 n (q_sub t.2 0 n) := by
  obtain ⟨h1, h2, h3, ⟨t1, t2, t3⟩, h5, h6, h7⟩ := hI
  have ht : ∀ j, j < n → t.2 (0 + j) < 256 := fun j hj => by rw [Nat.zero_add, ← t3 j (by omega)]; exact h2 _
  refine ⟨fun j hj => ?_, by omega, q_sub_row (by omega) ht⟩
  unfold q_sub
  rw [if_pos hj, Nat.zero_add]
  exact t3 j (by omega)
theorem uf_up {α : Type} (f : Nat → α) (k : Nat) : uf f k (f k) = f := by
  funext j
  unfold uf
  split
  · rename_i hj; rw [hj]
  · rfl
theorem sb_nar (x : Nat) : mm_nar (mTag 1) (sb_b x) = sb_b x := mm_nar0 (nI x)
theorem sp_mfilter {n : Int32} (hd : 60 ≤ d) (hD : mD o ad) (hI : mInv R I C t F V X) (hfin : ∀ B k, q_row B k → q_doc B k = true → (q_flt B 16 false 0 0).1 = 0 → q_fine B k) (hq : ∀ R' I' C', mInv R' I' C' (s_take t n) (s_filter t F n) V X → Q (some (.int (a_filter t n))) (mH h o ad I' C')) : mm_Go E d 116 (mm_blk 116 0) [.ref o, .int n, mm_un] [] (mH h o ad I C) Q := by
  have hI0 := hI
  obtain ⟨h1, h2, ⟨S, hS⟩, ⟨t1, t2, t3⟩, h5, h6, h7⟩ := hI
  unfold a_filter s_filter s_take at hq
  have one : (n < 0 ∨ nI t.1 < n) → mm_Go E d 116 (mm_blk 116 1) [.ref o, .int n, mm_un] [] (mH h o ad I C) Q := by
    intro hb
    rw [if_pos hb, if_pos hb, if_pos hb] at hq
    repeat (first | refine gi_con ?_ | refine gi_bip (Nat.le_of_ble_eq_true rfl) ?_ | refine gi_sip (Nat.le_of_ble_eq_true rfl) ?_ | refine gi_ldc ?_ | refine gi_add ?_ | refine gi_inc rfl ?_ | refine gi_sub (by omega) ?_ | refine gi_mul ?_ | refine go_nx rfl ?_)
    refine go_rt rfl ?_
    exact hq R I C hI0
  repeat (first | refine gi_con ?_ | refine gi_bip (Nat.le_of_ble_eq_true rfl) ?_ | refine gi_sip (Nat.le_of_ble_eq_true rfl) ?_ | refine gi_ldc ?_ | refine gi_add ?_ | refine gi_inc rfl ?_ | refine gi_sub (by omega) ?_ | refine gi_mul ?_ | refine go_nx rfl ?_)
  refine gx_lt (fun c1 => one (Or.inl c1)) (fun c1 => ?_)
  repeat (first | refine gi_con ?_ | refine gi_bip (Nat.le_of_ble_eq_true rfl) ?_ | refine gi_sip (Nat.le_of_ble_eq_true rfl) ?_ | refine gi_ldc ?_ | refine gi_add ?_ | refine gi_inc rfl ?_ | refine gi_sub (by omega) ?_ | refine gi_mul ?_ | refine go_nx rfl ?_)
  refine gm_get (.int (nI t.1)) rfl (by rw [← t2]; rfl) ?_
  refine gy_le (fun c2 => ?_) (fun c2 => ?_)
  · have hnb : ¬ (n < 0 ∨ nI t.1 < n) := fun q => q.elim c1 (fun q => Int32.not_le.mpr q c2)
    rw [if_neg hnb, if_neg hnb, if_neg hnb] at hq
    obtain ⟨k, hk, rfl⟩ : ∃ k, k ≤ t.1 ∧ n = nI k := by
      rcases pk_ix n (n := t.1 + 1) (by omega) with q | q | ⟨j, hj, rfl⟩
      · exact absurd q c1
      · exfalso
        have h3 : nI t.1 < nI (t.1 + 1) := nI_lt (by omega) (by omega)
        exact Int32.not_le.mpr (Int32.lt_of_lt_of_le h3 q) c2
      · exact ⟨j, by omega, rfl⟩
    rw [nI_clamp (show k < 2 ^ 31 by omega)] at hq
    have hw := mInv_W hI0 hk
    generalize hB : q_sub t.2 0 k = B at hq hw
    have inv0 : ∀ (I1 : Nat → Int32), I1 2 = nI 0 → I1 3 = nI 0 → I1 4 = I 4 → mInv R I1 C (0, t.2) none V X := fun I1 i2 i3 i4 => ⟨h1, h2, ⟨S, hS⟩, ⟨by simp, i2, fun j hj => by simp at hj⟩, ⟨by rw [i3]; rfl, fun f hf => by cases hf⟩, ⟨by rw [i4]; exact h6.1, h6.2⟩, h7⟩
    repeat (first | refine gi_con ?_ | refine gi_bip (Nat.le_of_ble_eq_true rfl) ?_ | refine gi_sip (Nat.le_of_ble_eq_true rfl) ?_ | refine gi_ldc ?_ | refine gi_add ?_ | refine gi_inc rfl ?_ | refine gi_sub (by omega) ?_ | refine gi_mul ?_ | refine go_nx rfl ?_)
    refine gm_put 2 rfl rfl (by decide) rfl ?_
    repeat (first | refine gi_con ?_ | refine gi_bip (Nat.le_of_ble_eq_true rfl) ?_ | refine gi_sip (Nat.le_of_ble_eq_true rfl) ?_ | refine gi_ldc ?_ | refine gi_add ?_ | refine gi_inc rfl ?_ | refine gi_sub (by omega) ?_ | refine gi_mul ?_ | refine go_nx rfl ?_)
    refine gm_put 3 rfl rfl (by decide) rfl ?_
    have j2 : ∀ (c f : Nat), mI (uf (uf I 2 (nI 0)) 3 (nI 0)) c f 2 = nI 0 := fun c f => rfl
    repeat (first | refine gi_con ?_ | refine gi_bip (Nat.le_of_ble_eq_true rfl) ?_ | refine gi_sip (Nat.le_of_ble_eq_true rfl) ?_ | refine gi_ldc ?_ | refine gi_add ?_ | refine gi_inc rfl ?_ | refine gi_sub (by omega) ?_ | refine gi_mul ?_ | refine go_nx rfl ?_)
    refine go_step ?_
    refine g_callV (by decide) (by decide) (Nat.le_of_ble_eq_true rfl) (Nat.le_of_ble_eq_true rfl) mH_rcv (by omega) (Nat.le_of_ble_eq_true rfl) rfl ?_
    refine sp_misdoc (by omega) (mH_st hD h1 h2) hw ?_
    repeat (first | refine gi_con ?_ | refine gi_bip (Nat.le_of_ble_eq_true rfl) ?_ | refine gi_sip (Nat.le_of_ble_eq_true rfl) ?_ | refine gi_ldc ?_ | refine gi_add ?_ | refine gi_inc rfl ?_ | refine gi_sub (by omega) ?_ | refine gi_mul ?_ | refine go_nx rfl ?_)
    first | refine gt_eq (fun c3 => ?_) (fun c3 => ?_) | refine gt_ne (fun c3 => ?_) (fun c3 => ?_)
    · rw [show (if q_doc B k = false then (-1 : Int32) else nI (q_flt B 16 false 0 0).1) = nI (q_flt B 16 false 0 0).1 from if_neg (by rw [c3]; decide)] at hq
      have hbx : q_box (q_u8 B) B 16 0 k false = true := by
        unfold q_doc at c3
        rw [Bool.and_eq_true] at c3
        exact c3.2
      repeat (first | refine gi_con ?_ | refine gi_bip (Nat.le_of_ble_eq_true rfl) ?_ | refine gi_sip (Nat.le_of_ble_eq_true rfl) ?_ | refine gi_ldc ?_ | refine gi_add ?_ | refine gi_inc rfl ?_ | refine gi_sub (by omega) ?_ | refine gi_mul ?_ | refine go_nx rfl ?_)
      refine gm_put 9 rfl rfl (by decide) rfl ?_
      repeat (first | refine gi_con ?_ | refine gi_bip (Nat.le_of_ble_eq_true rfl) ?_ | refine gi_sip (Nat.le_of_ble_eq_true rfl) ?_ | refine gi_ldc ?_ | refine gi_add ?_ | refine gi_inc rfl ?_ | refine gi_sub (by omega) ?_ | refine gi_mul ?_ | refine go_nx rfl ?_)
      refine gm_put 10 rfl rfl (by decide) rfl ?_
      repeat (first | refine gi_con ?_ | refine gi_bip (Nat.le_of_ble_eq_true rfl) ?_ | refine gi_sip (Nat.le_of_ble_eq_true rfl) ?_ | refine gi_ldc ?_ | refine gi_add ?_ | refine gi_inc rfl ?_ | refine gi_sub (by omega) ?_ | refine gi_mul ?_ | refine go_nx rfl ?_)
      refine go_step ?_
      refine g_callV (by decide) (by decide) (Nat.le_of_ble_eq_true rfl) (Nat.le_of_ble_eq_true rfl) mH_rcv (by omega) (Nat.le_of_ble_eq_true rfl) rfl ?_
      refine (sp_mlook (I := uf (uf I 2 (nI 0)) 3 (nI 0)) hD h1 h2 hw 16).1 (d - 1) 0 k 16 0 _ (by omega) (by omega) hbx (by omega) (by omega) (fun c' hc' => ?_)
      have hfb := (q_flt_le B 16 false 0 0 (by omega)).1
      repeat (first | refine gi_con ?_ | refine gi_bip (Nat.le_of_ble_eq_true rfl) ?_ | refine gi_sip (Nat.le_of_ble_eq_true rfl) ?_ | refine gi_ldc ?_ | refine gi_add ?_ | refine gi_inc rfl ?_ | refine gi_sub (by omega) ?_ | refine gi_mul ?_ | refine go_nx rfl ?_)
      refine gm_get (.int (nI (q_flt B 16 false 0 0).1)) rfl rfl ?_
      first | refine gz_eq (by omega) (fun c4 => ?_) (fun c4 => ?_) | refine gz_ne (by omega) (fun c4 => ?_) (fun c4 => ?_) | refine gz_le (by omega) (fun c4 => ?_) (fun c4 => ?_) | refine gz_gt (by omega) (fun c4 => ?_) (fun c4 => ?_) | refine gz_lt (by omega) (fun c4 => ?_) (fun c4 => ?_) | refine gz_ge (by omega) (fun c4 => ?_) (fun c4 => ?_)
      · rw [show (if q_doc B k = true ∧ (q_flt B 16 false 0 0).1 = 0 then some (k, B) else none) = some (k, B) from if_pos ⟨c3, c4⟩, c4] at hq
        have hfine := hfin B k hw.2.2 c3 c4
        have hk2 := hw.2.2.1
        have loop : ∀ (m j : Nat) (C1 : Nat → Nat → Int32), m + j = k → (∀ x, x < 22100 → C1 1 x = sb_b (q_cp R 0 j x)) → (∀ x, x ≠ 1 → C1 x = C x) → mm_Go E d 116 (mm_blk 116 5) [.ref o, .int (nI k), .int (nI j)] [] (mH h o ad (mI (uf (uf I 2 (nI 0)) 3 (nI 0)) c' (q_flt B 16 false 0 0).1) C1) Q := by
          intro m
          induction m with
          | zero =>
            intro j C1 hm hC1 hC1'
            have hjk : j = k := by omega
            subst hjk
            repeat (first | refine gi_con ?_ | refine gi_bip (Nat.le_of_ble_eq_true rfl) ?_ | refine gi_sip (Nat.le_of_ble_eq_true rfl) ?_ | refine gi_ldc ?_ | refine gi_add ?_ | refine gi_inc rfl ?_ | refine gi_sub (by omega) ?_ | refine gi_mul ?_ | refine go_nx rfl ?_)
            first | refine gb_lt (by omega) (by omega) (fun c5 => ?_) (fun c5 => ?_) | refine gb_ge (by omega) (by omega) (fun c5 => ?_) (fun c5 => ?_) | refine gb_gt (by omega) (by omega) (fun c5 => ?_) (fun c5 => ?_) | refine gb_le (by omega) (by omega) (fun c5 => ?_) (fun c5 => ?_) | refine gb_eq (by omega) (by omega) (fun c5 => ?_) (fun c5 => ?_) | refine gb_ne (by omega) (by omega) (fun c5 => ?_) (fun c5 => ?_)
            · repeat (first | refine gi_con ?_ | refine gi_bip (Nat.le_of_ble_eq_true rfl) ?_ | refine gi_sip (Nat.le_of_ble_eq_true rfl) ?_ | refine gi_ldc ?_ | refine gi_add ?_ | refine gi_inc rfl ?_ | refine gi_sub (by omega) ?_ | refine gi_mul ?_ | refine go_nx rfl ?_)
              refine gm_put 3 rfl rfl (by decide) rfl ?_
              repeat (first | refine gi_con ?_ | refine gi_bip (Nat.le_of_ble_eq_true rfl) ?_ | refine gi_sip (Nat.le_of_ble_eq_true rfl) ?_ | refine gi_ldc ?_ | refine gi_add ?_ | refine gi_inc rfl ?_ | refine gi_sub (by omega) ?_ | refine gi_mul ?_ | refine go_nx rfl ?_)
              refine go_rt rfl ?_
              refine hq (q_cp R 0 j) _ C1 ⟨hC1, q_cp_lt h2, ⟨S, fun r hr => by rw [hC1' 14 (by decide), hC1' 15 (by decide)]; exact hS r hr⟩, ⟨by simp, rfl, fun x hx => by simp at hx⟩, ⟨rfl, fun f hf => ?_⟩, ⟨h6.1, fun f hf => ?_⟩, fun i hi => ?_⟩
              · cases hf
                refine ⟨⟨fun x hx => ?_, by omega, hw.2.2⟩, hfine⟩
                unfold q_cp
                rw [if_pos (by omega), Nat.zero_add, Nat.sub_zero]
                exact hw.1 x hx
              · obtain ⟨⟨w1, w2, w3⟩, w4⟩ := h6.2 f hf
                refine ⟨⟨fun x hx => ?_, w2, w3⟩, w4⟩
                unfold q_cp
                rw [if_neg (by omega)]
                exact w1 x hx
              · unfold mIx
                rw [hC1' 5 (by decide), hC1' 6 (by decide), hC1' 7 (by decide), hC1' 8 (by decide)]
                obtain ⟨e1, e2⟩ := h7 i hi
                refine ⟨e1, fun y hy => ?_⟩
                obtain ⟨a1, a2, a3, a4, a5, a6, a7, a8, a9, a10⟩ := e2 y hy
                refine ⟨a1, a2, a3, a4, a5, a6, fun x hx => ?_, fun x hx => ?_, a9, a10⟩
                · unfold q_cp
                  rw [if_neg (by omega)]
                  exact a7 x hx
                · unfold q_cp
                  rw [if_neg (by omega)]
                  exact a8 x hx
            · omega
          | succ m ih =>
            intro j C1 hm hC1 hC1'
            repeat (first | refine gi_con ?_ | refine gi_bip (Nat.le_of_ble_eq_true rfl) ?_ | refine gi_sip (Nat.le_of_ble_eq_true rfl) ?_ | refine gi_ldc ?_ | refine gi_add ?_ | refine gi_inc rfl ?_ | refine gi_sub (by omega) ?_ | refine gi_mul ?_ | refine go_nx rfl ?_)
            first | refine gb_lt (by omega) (by omega) (fun c5 => ?_) (fun c5 => ?_) | refine gb_ge (by omega) (by omega) (fun c5 => ?_) (fun c5 => ?_) | refine gb_gt (by omega) (by omega) (fun c5 => ?_) (fun c5 => ?_) | refine gb_le (by omega) (by omega) (fun c5 => ?_) (fun c5 => ?_) | refine gb_eq (by omega) (by omega) (fun c5 => ?_) (fun c5 => ?_) | refine gb_ne (by omega) (by omega) (fun c5 => ?_) (fun c5 => ?_)
            · omega
            repeat (first | refine gi_con ?_ | refine gi_bip (Nat.le_of_ble_eq_true rfl) ?_ | refine gi_sip (Nat.le_of_ble_eq_true rfl) ?_ | refine gi_ldc ?_ | refine gi_add ?_ | refine gi_inc rfl ?_ | refine gi_sub (by omega) ?_ | refine gi_mul ?_ | refine go_nx rfl ?_)
            refine gm_get (.ref (ad 1)) rfl rfl ?_
            repeat (first | refine gi_con ?_ | refine gi_bip (Nat.le_of_ble_eq_true rfl) ?_ | refine gi_sip (Nat.le_of_ble_eq_true rfl) ?_ | refine gi_ldc ?_ | refine gi_add ?_ | refine gi_inc rfl ?_ | refine gi_sub (by omega) ?_ | refine gi_mul ?_ | refine go_nx rfl ?_)
            refine gm_get (.ref (ad 1)) rfl rfl ?_
            repeat (first | refine gi_con ?_ | refine gi_bip (Nat.le_of_ble_eq_true rfl) ?_ | refine gi_sip (Nat.le_of_ble_eq_true rfl) ?_ | refine gi_ldc ?_ | refine gi_add ?_ | refine gi_inc rfl ?_ | refine gi_sub (by omega) ?_ | refine gi_mul ?_ | refine go_nx rfl ?_)
            refine gm_bld hD (by decide) (Or.inl rfl) (show 20000 + j < 22100 by omega) (by decide) ?_
            rw [hC1 _ (by omega), show q_cp R 0 j (20000 + j) = R (20000 + j) from by unfold q_cp; rw [if_neg (by omega)]]
            refine gm_bst hD (by decide) (Or.inl rfl) (show 0 + j < 22100 by omega) (by decide) ?_
            rw [sb_nar]
            repeat (first | refine gi_con ?_ | refine gi_bip (Nat.le_of_ble_eq_true rfl) ?_ | refine gi_sip (Nat.le_of_ble_eq_true rfl) ?_ | refine gi_ldc ?_ | refine gi_add ?_ | refine gi_inc rfl ?_ | refine gi_sub (by omega) ?_ | refine gi_mul ?_ | refine go_nx rfl ?_)
            refine go_jp rfl ?_
            refine ih (j + 1) _ (by omega) (fun x hx => ?_) (fun x hx => by rw [uf_ne hx]; exact hC1' x hx)
            rw [uf_at, q_cp_s (by omega)]
            unfold uf
            by_cases hx0 : x = 0 + j
            · rw [if_pos hx0, if_pos hx0]
            · rw [if_neg hx0, if_neg hx0]
              exact hC1 x hx
        repeat (first | refine gi_con ?_ | refine gi_bip (Nat.le_of_ble_eq_true rfl) ?_ | refine gi_sip (Nat.le_of_ble_eq_true rfl) ?_ | refine gi_ldc ?_ | refine gi_add ?_ | refine gi_inc rfl ?_ | refine gi_sub (by omega) ?_ | refine gi_mul ?_ | refine go_nx rfl ?_)
        refine go_jp rfl ?_
        exact loop k 0 C (by omega) (fun x hx => by rw [q_cp_0]; exact h1 x hx) (fun x _ => rfl)
      · rw [show (if q_doc B k = true ∧ (q_flt B 16 false 0 0).1 = 0 then some (k, B) else none) = none from if_neg (fun q => absurd q.2 (by omega))] at hq
        repeat (first | refine gi_con ?_ | refine gi_bip (Nat.le_of_ble_eq_true rfl) ?_ | refine gi_sip (Nat.le_of_ble_eq_true rfl) ?_ | refine gi_ldc ?_ | refine gi_add ?_ | refine gi_inc rfl ?_ | refine gi_sub (by omega) ?_ | refine gi_mul ?_ | refine go_nx rfl ?_)
        refine gm_get (.int (nI (q_flt B 16 false 0 0).1)) rfl rfl ?_
        refine go_rt rfl ?_
        exact hq R _ C (inv0 _ rfl rfl rfl)
    · rw [show (if q_doc B k = true ∧ (q_flt B 16 false 0 0).1 = 0 then some (k, B) else none) = none from if_neg (fun q => by rw [c3] at q; cases q.1), if_pos c3] at hq
      repeat (first | refine gi_con ?_ | refine gi_bip (Nat.le_of_ble_eq_true rfl) ?_ | refine gi_sip (Nat.le_of_ble_eq_true rfl) ?_ | refine gi_ldc ?_ | refine gi_add ?_ | refine gi_inc rfl ?_ | refine gi_sub (by omega) ?_ | refine gi_mul ?_ | refine go_nx rfl ?_)
      refine go_rt rfl ?_
      exact hq R _ C (inv0 _ rfl rfl rfl)
  · refine go_jp rfl ?_
    exact one (Or.inr (Int32.not_le.mp c2))
theorem sp_mvalue {n : Int32} (hd : 60 ≤ d) (hD : mD o ad) (hI : mInv R I C t F V X) (hq : ∀ R' I' C', mInv R' I' C' (s_take t n) F (s_value t V n) X → Q (some (.int (a_value t n))) (mH h o ad I' C')) : mm_Go E d 140 (mm_blk 140 0) [.ref o, .int n, mm_un] [] (mH h o ad I C) Q := by
  have hI0 := hI
  obtain ⟨h1, h2, ⟨S, hS⟩, ⟨t1, t2, t3⟩, h5, h6, h7⟩ := hI
  unfold a_value s_value s_take at hq
  have one : (n < 0 ∨ nI t.1 < n) → mm_Go E d 140 (mm_blk 140 1) [.ref o, .int n, mm_un] [] (mH h o ad I C) Q := by
    intro hb
    rw [if_pos hb, if_pos hb, if_pos hb] at hq
    repeat (first | refine gi_con ?_ | refine gi_bip (Nat.le_of_ble_eq_true rfl) ?_ | refine gi_sip (Nat.le_of_ble_eq_true rfl) ?_ | refine gi_ldc ?_ | refine gi_add ?_ | refine gi_inc rfl ?_ | refine gi_sub (by omega) ?_ | refine gi_mul ?_ | refine go_nx rfl ?_)
    refine go_rt rfl ?_
    exact hq R I C hI0
  repeat (first | refine gi_con ?_ | refine gi_bip (Nat.le_of_ble_eq_true rfl) ?_ | refine gi_sip (Nat.le_of_ble_eq_true rfl) ?_ | refine gi_ldc ?_ | refine gi_add ?_ | refine gi_inc rfl ?_ | refine gi_sub (by omega) ?_ | refine gi_mul ?_ | refine go_nx rfl ?_)
  refine gx_lt (fun c1 => one (Or.inl c1)) (fun c1 => ?_)
  repeat (first | refine gi_con ?_ | refine gi_bip (Nat.le_of_ble_eq_true rfl) ?_ | refine gi_sip (Nat.le_of_ble_eq_true rfl) ?_ | refine gi_ldc ?_ | refine gi_add ?_ | refine gi_inc rfl ?_ | refine gi_sub (by omega) ?_ | refine gi_mul ?_ | refine go_nx rfl ?_)
  refine gm_get (.int (nI t.1)) rfl (by rw [← t2]; rfl) ?_
  refine gy_le (fun c2 => ?_) (fun c2 => ?_)
  · have hnb : ¬ (n < 0 ∨ nI t.1 < n) := fun q => q.elim c1 (fun q => Int32.not_le.mpr q c2)
    rw [if_neg hnb, if_neg hnb, if_neg hnb] at hq
    obtain ⟨k, hk, rfl⟩ : ∃ k, k ≤ t.1 ∧ n = nI k := by
      rcases pk_ix n (n := t.1 + 1) (by omega) with q | q | ⟨j, hj, rfl⟩
      · exact absurd q c1
      · exfalso
        have h3 : nI t.1 < nI (t.1 + 1) := nI_lt (by omega) (by omega)
        exact Int32.not_le.mpr (Int32.lt_of_lt_of_le h3 q) c2
      · exact ⟨j, by omega, rfl⟩
    rw [nI_clamp (show k < 2 ^ 31 by omega)] at hq
    have hw := mInv_W hI0 hk
    generalize hB : q_sub t.2 0 k = B at hq hw
    have hk2 := hw.2.2.1
    have four : ∀ (b : Bool), (b = true ↔ q_doc B k = true ∧ 5 < k) → mm_Go E d 140 (mm_blk 140 4) [.ref o, .int (nI k), mm_un] [.int (q_t b), .ref o] (mH h o ad (uf I 2 (nI 0)) C) Q := by
      intro b hb
      refine gm_put 4 rfl rfl (by decide) (by cases b <;> rfl) ?_
      repeat (first | refine gi_con ?_ | refine gi_bip (Nat.le_of_ble_eq_true rfl) ?_ | refine gi_sip (Nat.le_of_ble_eq_true rfl) ?_ | refine gi_ldc ?_ | refine gi_add ?_ | refine gi_inc rfl ?_ | refine gi_sub (by omega) ?_ | refine gi_mul ?_ | refine go_nx rfl ?_)
      refine go_jp rfl ?_
      cases b with
      | false =>
        rw [if_neg (fun q => by have := hb.mpr q; cases this), if_neg (fun q => by have := hb.mpr q; cases this)] at hq
        have six : ∀ (x2 : Value), mm_Go E d 140 (mm_blk 140 6) [.ref o, .int (nI k), x2] [] (mH h o ad (uf (uf I 2 (nI 0)) 4 (q_t false)) C) Q := by
          intro x2
          repeat (first | refine gi_con ?_ | refine gi_bip (Nat.le_of_ble_eq_true rfl) ?_ | refine gi_sip (Nat.le_of_ble_eq_true rfl) ?_ | refine gi_ldc ?_ | refine gi_add ?_ | refine gi_inc rfl ?_ | refine gi_sub (by omega) ?_ | refine gi_mul ?_ | refine go_nx rfl ?_)
          refine gm_get (.int (q_t false)) rfl rfl ?_
          refine gt_eq (fun _ => ?_) (fun c => by cases c)
          repeat (first | refine gi_con ?_ | refine gi_bip (Nat.le_of_ble_eq_true rfl) ?_ | refine gi_sip (Nat.le_of_ble_eq_true rfl) ?_ | refine gi_ldc ?_ | refine gi_add ?_ | refine gi_inc rfl ?_ | refine gi_sub (by omega) ?_ | refine gi_mul ?_ | refine go_nx rfl ?_)
          refine go_jp rfl ?_
          refine go_rt rfl ?_
          exact hq R _ C ⟨h1, h2, ⟨S, hS⟩, ⟨by simp, rfl, fun x hx => by simp at hx⟩, ⟨h5.1, h5.2⟩, ⟨rfl, fun f hf => by cases hf⟩, h7⟩
        repeat (first | refine gi_con ?_ | refine gi_bip (Nat.le_of_ble_eq_true rfl) ?_ | refine gi_sip (Nat.le_of_ble_eq_true rfl) ?_ | refine gi_ldc ?_ | refine gi_add ?_ | refine gi_inc rfl ?_ | refine gi_sub (by omega) ?_ | refine gi_mul ?_ | refine go_nx rfl ?_)
        first | refine gb_lt (by omega) (by omega) (fun c5 => ?_) (fun c5 => ?_) | refine gb_ge (by omega) (by omega) (fun c5 => ?_) (fun c5 => ?_) | refine gb_gt (by omega) (by omega) (fun c5 => ?_) (fun c5 => ?_) | refine gb_le (by omega) (by omega) (fun c5 => ?_) (fun c5 => ?_) | refine gb_eq (by omega) (by omega) (fun c5 => ?_) (fun c5 => ?_) | refine gb_ne (by omega) (by omega) (fun c5 => ?_) (fun c5 => ?_)
        · exact six _
        · repeat (first | refine gi_con ?_ | refine gi_bip (Nat.le_of_ble_eq_true rfl) ?_ | refine gi_sip (Nat.le_of_ble_eq_true rfl) ?_ | refine gi_ldc ?_ | refine gi_add ?_ | refine gi_inc rfl ?_ | refine gi_sub (by omega) ?_ | refine gi_mul ?_ | refine go_nx rfl ?_)
          refine gm_get (.int (q_t false)) rfl rfl ?_
          refine gt_eq (fun _ => ?_) (fun c => by cases c)
          exact six _
      | true =>
        obtain ⟨hdoc, h5k⟩ := hb.mp rfl
        rw [if_pos ⟨hdoc, h5k⟩, if_pos ⟨hdoc, h5k⟩] at hq
        have hdb : q_box (q_u8 B) B 16 0 k false = true ∧ q_sz B 0 = k := by
          unfold q_doc at hdoc
          rw [Bool.and_eq_true, decide_eq_true_eq] at hdoc
          exact ⟨hdoc.2, hdoc.1⟩
        have loop : ∀ (m j : Nat) (C1 : Nat → Nat → Int32), m + j = k → (∀ x, x < 22100 → C1 1 x = sb_b (q_cp R 2000 j x)) → (∀ x, x ≠ 1 → C1 x = C x) → mm_Go E d 140 (mm_blk 140 5) [.ref o, .int (nI k), .int (nI j)] [] (mH h o ad (uf (uf I 2 (nI 0)) 4 (q_t true)) C1) Q := by
          intro m
          induction m with
          | zero =>
            intro j C1 hm hC1 hC1'
            have hjk : j = k := by omega
            subst hjk
            have hwv : mW (q_cp R 2000 j) 2000 j B := by
              refine ⟨fun x hx => ?_, by omega, hw.2.2⟩
              unfold q_cp
              rw [if_pos (by omega), show 2000 + x - 2000 = x by omega]
              exact hw.1 x hx
            repeat (first | refine gi_con ?_ | refine gi_bip (Nat.le_of_ble_eq_true rfl) ?_ | refine gi_sip (Nat.le_of_ble_eq_true rfl) ?_ | refine gi_ldc ?_ | refine gi_add ?_ | refine gi_inc rfl ?_ | refine gi_sub (by omega) ?_ | refine gi_mul ?_ | refine go_nx rfl ?_)
            first | refine gb_lt (by omega) (by omega) (fun c5 => ?_) (fun c5 => ?_) | refine gb_ge (by omega) (by omega) (fun c5 => ?_) (fun c5 => ?_) | refine gb_gt (by omega) (by omega) (fun c5 => ?_) (fun c5 => ?_) | refine gb_le (by omega) (by omega) (fun c5 => ?_) (fun c5 => ?_) | refine gb_eq (by omega) (by omega) (fun c5 => ?_) (fun c5 => ?_) | refine gb_ne (by omega) (by omega) (fun c5 => ?_) (fun c5 => ?_)
            · repeat (first | refine gi_con ?_ | refine gi_bip (Nat.le_of_ble_eq_true rfl) ?_ | refine gi_sip (Nat.le_of_ble_eq_true rfl) ?_ | refine gi_ldc ?_ | refine gi_add ?_ | refine gi_inc rfl ?_ | refine gi_sub (by omega) ?_ | refine gi_mul ?_ | refine go_nx rfl ?_)
              refine gm_get (.int (q_t true)) rfl rfl ?_
              refine gt_eq (fun c => by cases c) (fun _ => ?_)
              repeat (first | refine gi_con ?_ | refine gi_bip (Nat.le_of_ble_eq_true rfl) ?_ | refine gi_sip (Nat.le_of_ble_eq_true rfl) ?_ | refine gi_ldc ?_ | refine gi_add ?_ | refine gi_inc rfl ?_ | refine gi_sub (by omega) ?_ | refine gi_mul ?_ | refine go_nx rfl ?_)
              refine go_step ?_
              refine g_callV (by decide) (by decide) (Nat.le_of_ble_eq_true rfl) (Nat.le_of_ble_eq_true rfl) mH_rcv (by omega) (Nat.le_of_ble_eq_true rfl) rfl ?_
              refine sp_mat2 (b := 2000) (x := 4) (mH_st hD hC1 (q_cp_lt h2)) hwv (by omega) ?_
              repeat (first | refine gi_con ?_ | refine gi_bip (Nat.le_of_ble_eq_true rfl) ?_ | refine gi_sip (Nat.le_of_ble_eq_true rfl) ?_ | refine gi_ldc ?_ | refine gi_add ?_ | refine gi_inc rfl ?_ | refine gi_sub (by omega) ?_ | refine gi_mul ?_ | refine go_nx rfl ?_)
              refine go_jp rfl ?_
              refine go_rt rfl ?_
              refine hq (q_cp R 2000 j) _ C1 ⟨hC1, q_cp_lt h2, ⟨S, fun r hr => by rw [hC1' 14 (by decide), hC1' 15 (by decide)]; exact hS r hr⟩, ⟨by simp, rfl, fun x hx => by simp at hx⟩, ⟨h5.1, fun f hf => ?_⟩, ⟨rfl, fun f hf => ?_⟩, fun i hi => ?_⟩
              · obtain ⟨⟨w1, w2, w3⟩, w4⟩ := h5.2 f hf
                have := w3.1
                refine ⟨⟨fun x hx => ?_, w2, w3⟩, w4⟩
                unfold q_cp
                rw [if_neg (by omega)]
                exact w1 x hx
              · cases hf
                exact ⟨hwv, hdb.1, hdb.2, h5k⟩
              · unfold mIx
                rw [hC1' 5 (by decide), hC1' 6 (by decide), hC1' 7 (by decide), hC1' 8 (by decide)]
                obtain ⟨e1, e2⟩ := h7 i hi
                refine ⟨e1, fun y hy => ?_⟩
                obtain ⟨a1, a2, a3, a4, a5, a6, a7, a8, a9, a10⟩ := e2 y hy
                refine ⟨a1, a2, a3, a4, a5, a6, fun x hx => ?_, fun x hx => ?_, a9, a10⟩
                · unfold q_cp
                  rw [if_neg (by omega)]
                  exact a7 x hx
                · unfold q_cp
                  rw [if_neg (by omega)]
                  exact a8 x hx
            · omega
          | succ m ih =>
            intro j C1 hm hC1 hC1'
            repeat (first | refine gi_con ?_ | refine gi_bip (Nat.le_of_ble_eq_true rfl) ?_ | refine gi_sip (Nat.le_of_ble_eq_true rfl) ?_ | refine gi_ldc ?_ | refine gi_add ?_ | refine gi_inc rfl ?_ | refine gi_sub (by omega) ?_ | refine gi_mul ?_ | refine go_nx rfl ?_)
            first | refine gb_lt (by omega) (by omega) (fun c5 => ?_) (fun c5 => ?_) | refine gb_ge (by omega) (by omega) (fun c5 => ?_) (fun c5 => ?_) | refine gb_gt (by omega) (by omega) (fun c5 => ?_) (fun c5 => ?_) | refine gb_le (by omega) (by omega) (fun c5 => ?_) (fun c5 => ?_) | refine gb_eq (by omega) (by omega) (fun c5 => ?_) (fun c5 => ?_) | refine gb_ne (by omega) (by omega) (fun c5 => ?_) (fun c5 => ?_)
            · omega
            repeat (first | refine gi_con ?_ | refine gi_bip (Nat.le_of_ble_eq_true rfl) ?_ | refine gi_sip (Nat.le_of_ble_eq_true rfl) ?_ | refine gi_ldc ?_ | refine gi_add ?_ | refine gi_inc rfl ?_ | refine gi_sub (by omega) ?_ | refine gi_mul ?_ | refine go_nx rfl ?_)
            refine gm_get (.int (q_t true)) rfl rfl ?_
            refine gt_eq (fun c => by cases c) (fun _ => ?_)
            repeat (first | refine gi_con ?_ | refine gi_bip (Nat.le_of_ble_eq_true rfl) ?_ | refine gi_sip (Nat.le_of_ble_eq_true rfl) ?_ | refine gi_ldc ?_ | refine gi_add ?_ | refine gi_inc rfl ?_ | refine gi_sub (by omega) ?_ | refine gi_mul ?_ | refine go_nx rfl ?_)
            refine gm_get (.ref (ad 1)) rfl rfl ?_
            repeat (first | refine gi_con ?_ | refine gi_bip (Nat.le_of_ble_eq_true rfl) ?_ | refine gi_sip (Nat.le_of_ble_eq_true rfl) ?_ | refine gi_ldc ?_ | refine gi_add ?_ | refine gi_inc rfl ?_ | refine gi_sub (by omega) ?_ | refine gi_mul ?_ | refine go_nx rfl ?_)
            refine gm_get (.ref (ad 1)) rfl rfl ?_
            repeat (first | refine gi_con ?_ | refine gi_bip (Nat.le_of_ble_eq_true rfl) ?_ | refine gi_sip (Nat.le_of_ble_eq_true rfl) ?_ | refine gi_ldc ?_ | refine gi_add ?_ | refine gi_inc rfl ?_ | refine gi_sub (by omega) ?_ | refine gi_mul ?_ | refine go_nx rfl ?_)
            refine gm_bld hD (by decide) (Or.inl rfl) (show 20000 + j < 22100 by omega) (by decide) ?_
            rw [hC1 _ (by omega), show q_cp R 2000 j (20000 + j) = R (20000 + j) from by unfold q_cp; rw [if_neg (by omega)]]
            refine gm_bst hD (by decide) (Or.inl rfl) (show 2000 + j < 22100 by omega) (by decide) ?_
            rw [sb_nar]
            repeat (first | refine gi_con ?_ | refine gi_bip (Nat.le_of_ble_eq_true rfl) ?_ | refine gi_sip (Nat.le_of_ble_eq_true rfl) ?_ | refine gi_ldc ?_ | refine gi_add ?_ | refine gi_inc rfl ?_ | refine gi_sub (by omega) ?_ | refine gi_mul ?_ | refine go_nx rfl ?_)
            refine go_jp rfl ?_
            refine ih (j + 1) _ (by omega) (fun x hx => ?_) (fun x hx => by rw [uf_ne hx]; exact hC1' x hx)
            rw [uf_at, q_cp_s (by omega)]
            unfold uf
            by_cases hx0 : x = 2000 + j
            · rw [if_pos hx0, if_pos hx0]
            · rw [if_neg hx0, if_neg hx0]
              exact hC1 x hx
        exact loop k 0 C (by omega) (fun x hx => by rw [q_cp_0]; exact h1 x hx) (fun x _ => rfl)
    repeat (first | refine gi_con ?_ | refine gi_bip (Nat.le_of_ble_eq_true rfl) ?_ | refine gi_sip (Nat.le_of_ble_eq_true rfl) ?_ | refine gi_ldc ?_ | refine gi_add ?_ | refine gi_inc rfl ?_ | refine gi_sub (by omega) ?_ | refine gi_mul ?_ | refine go_nx rfl ?_)
    refine gm_put 2 rfl rfl (by decide) rfl ?_
    repeat (first | refine gi_con ?_ | refine gi_bip (Nat.le_of_ble_eq_true rfl) ?_ | refine gi_sip (Nat.le_of_ble_eq_true rfl) ?_ | refine gi_ldc ?_ | refine gi_add ?_ | refine gi_inc rfl ?_ | refine gi_sub (by omega) ?_ | refine gi_mul ?_ | refine go_nx rfl ?_)
    refine go_step ?_
    refine g_callV (by decide) (by decide) (Nat.le_of_ble_eq_true rfl) (Nat.le_of_ble_eq_true rfl) mH_rcv (by omega) (Nat.le_of_ble_eq_true rfl) rfl ?_
    refine sp_misdoc (by omega) (mH_st hD h1 h2) hw ?_
    repeat (first | refine gi_con ?_ | refine gi_bip (Nat.le_of_ble_eq_true rfl) ?_ | refine gi_sip (Nat.le_of_ble_eq_true rfl) ?_ | refine gi_ldc ?_ | refine gi_add ?_ | refine gi_inc rfl ?_ | refine gi_sub (by omega) ?_ | refine gi_mul ?_ | refine go_nx rfl ?_)
    first | refine gt_eq (fun c3 => ?_) (fun c3 => ?_) | refine gt_ne (fun c3 => ?_) (fun c3 => ?_)
    · repeat (first | refine gi_con ?_ | refine gi_bip (Nat.le_of_ble_eq_true rfl) ?_ | refine gi_sip (Nat.le_of_ble_eq_true rfl) ?_ | refine gi_ldc ?_ | refine gi_add ?_ | refine gi_inc rfl ?_ | refine gi_sub (by omega) ?_ | refine gi_mul ?_ | refine go_nx rfl ?_)
      refine go_jp rfl ?_
      exact four false ⟨fun q => Bool.noConfusion q, fun q => absurd (c3.symm.trans q.1) (by decide)⟩
    repeat (first | refine gi_con ?_ | refine gi_bip (Nat.le_of_ble_eq_true rfl) ?_ | refine gi_sip (Nat.le_of_ble_eq_true rfl) ?_ | refine gi_ldc ?_ | refine gi_add ?_ | refine gi_inc rfl ?_ | refine gi_sub (by omega) ?_ | refine gi_mul ?_ | refine go_nx rfl ?_)
    first | refine gb_lt (by omega) (by omega) (fun c4 => ?_) (fun c4 => ?_) | refine gb_ge (by omega) (by omega) (fun c4 => ?_) (fun c4 => ?_) | refine gb_gt (by omega) (by omega) (fun c4 => ?_) (fun c4 => ?_) | refine gb_le (by omega) (by omega) (fun c4 => ?_) (fun c4 => ?_) | refine gb_eq (by omega) (by omega) (fun c4 => ?_) (fun c4 => ?_) | refine gb_ne (by omega) (by omega) (fun c4 => ?_) (fun c4 => ?_)
    · repeat (first | refine gi_con ?_ | refine gi_bip (Nat.le_of_ble_eq_true rfl) ?_ | refine gi_sip (Nat.le_of_ble_eq_true rfl) ?_ | refine gi_ldc ?_ | refine gi_add ?_ | refine gi_inc rfl ?_ | refine gi_sub (by omega) ?_ | refine gi_mul ?_ | refine go_nx rfl ?_)
      refine go_jp rfl ?_
      exact four false ⟨fun q => Bool.noConfusion q, fun q => absurd q.2 (by omega)⟩
    · repeat (first | refine gi_con ?_ | refine gi_bip (Nat.le_of_ble_eq_true rfl) ?_ | refine gi_sip (Nat.le_of_ble_eq_true rfl) ?_ | refine gi_ldc ?_ | refine gi_add ?_ | refine gi_inc rfl ?_ | refine gi_sub (by omega) ?_ | refine gi_mul ?_ | refine go_nx rfl ?_)
      refine go_jp rfl ?_
      exact four true ⟨fun _ => ⟨c3, c4⟩, fun _ => rfl⟩
  · refine go_jp rfl ?_
    exact one (Or.inr (Int32.not_le.mp c2))
end M
