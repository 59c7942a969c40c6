/-! THE REFERENCE: find -/
def q_bnd (ob : Nat → Nat → Int32) (B : Nat → Nat) (ce : Nat × Nat) : Option (List qR) := if ce.1 = 7 then q_we ob B ce.2 else q_wb ob B ce.1 ce.2
def q_fall (ob : Nat → Nat → Int32) (B : Nat → Nat) (K : List (Nat × Nat)) : Option (List qR) := K.foldl (fun st ce => q_join2 ob st (q_bnd ob B ce)) none
def q_fst (ob : Nat → Nat → Int32) (B : Nat → Nat) (p : Nat × Nat → Bool) : List (Nat × Nat) → Option (List qR)
  | [] => none
  | ce :: K => if p ce = true ∧ (q_bnd ob B ce).isSome = true then q_bnd ob B ce else q_fst ob B p K
theorem q_fst_c (ob : Nat → Nat → Int32) (B : Nat → Nat) (p : Nat × Nat → Bool) (ce : Nat × Nat) (K : List (Nat × Nat)) : q_fst ob B p (ce :: K) = if p ce = true ∧ (q_bnd ob B ce).isSome = true then q_bnd ob B ce else q_fst ob B p K := rfl
def q_fone (ob : Nat → Nat → Int32) (B : Nat → Nat) (K : List (Nat × Nat)) : Option (List qR) := match q_fst ob B (fun ce => decide (ce.1 < 3)) K with
  | some l => some l
  | none => q_fst ob B (fun _ => true) K
/-- a condition that the bounds can be taken of -/
def q_cok (B : Nat → Nat) (n : Nat) (ce : Nat × Nat) : Prop := (∃ lev, lev < 17 ∧ q_me B n ce.2 lev) ∧ 1 ≤ ce.1 ∧ ce.1 ≤ 7 ∧ (ce.1 = 2 → B ce.2 = 4) ∧ (ce.1 = 7 → B ce.2 = 3 ∧ q_eok B ce.2)
/-- the set that waits -/
def mWt (I : Nat → Int32) (C : Nat → Nat → Int32) (W : List qR) : Prop := W.length ≤ 1000 ∧ I 16 = nI W.length ∧ ∀ k, k < W.length → ∀ f, f < 8 → C 17 (8 * k + f) = q_rf (W.getD k q_r0) f
theorem mWt_fr {I : Nat → Int32} {C C' : Nat → Nat → Int32} {W : List qR} (h : mWt I C W) (hf : mFr C C') : mWt I C' W := ⟨h.1, h.2.1, fun k hk f hf' => by rw [hf 17 (by decide) (by decide)]; exact h.2.2 k hk f hf'⟩
section M
variable {E : mmE} {d : Nat} {h : mmH} {Q : Option Value → mmH → Prop} {o : Nat} {ad : Nat → Nat} {I : Nat → Int32} {C : Nat → Nat → Int32} {S : Nat → List qR} {R B : Nat → Nat} {n : Nat}
theorem q_bnd_ok {ob : Nat → Nat → Int32} {ce : Nat × Nat} {l : List qR} (hc : q_cok B n ce) (h : q_bnd ob B ce = some l) : ∀ r ∈ l, q_okR B n r := by
  obtain ⟨⟨lev, h1, h2⟩, h3, h4, h5, h6⟩ := hc
  unfold q_bnd at h
  split at h
  · rename_i h7
    obtain ⟨h8, h9⟩ := h6 h7
    obtain ⟨b1, b2, b3, b4, b5⟩ := q_me_box h2 (Or.inl h8)
    unfold q_we at h
    cases hw : q_we0 ob B ce.2 with
    | none => rw [hw] at h; cases h
    | some l0 =>
      rw [hw] at h
      cases h
      have key : ∀ (els : List Nat) (st : Option (List qR)), (∀ x ∈ els, q_me B n x (lev - 1) ∧ (q_nof (q_word B x) = 2 → B x = 4)) → (∀ l, st = some l → ∀ r ∈ l, q_okR B n r) → ∀ l, els.foldl (q_wstep ob B) st = some l → ∀ r ∈ l, q_okR B n r := by
        intro els
        induction els with
        | nil => intro st _ hs l hl; exact hs l hl
        | cons x els ih =>
          intro st hx hs l hl
          refine ih _ (fun y hy => hx y (List.mem_cons_of_mem _ hy)) ?_ l hl
          unfold q_wstep
          split
          · exact q_join2_ok hs (fun l2 hl2 => q_wb_ok (hx x List.mem_cons_self).1 (by omega) (hx x List.mem_cons_self).2 hl2)
          · exact hs
      have h0 := key _ none (fun x hx => ⟨(q_els_me (by omega) (by omega) _ _ _ b5 x hx).2, h9.1 x hx⟩) (fun l hl => by cases hl) l0 hw
      intro r hr
      rcases q_addr_mem l0 r hr with hr | hr
      · rw [hr]
        exact ⟨q_okE_be (by omega) (Or.inl rfl), q_okE_be (by omega) (Or.inr rfl)⟩
      · exact h0 r hr
  · exact q_wb_ok h2 h1 h5 h
theorem sp_msave (hD : mD o ad) (hS : mS3 C S) (hq : ∀ I' C', mWt I' C' (S 0) → (∀ j, j ≠ 16 → I' j = I j) → (∀ j, j ≠ 17 → C' j = C j) → Q none (mH h o ad I' C')) : mm_Go E d 163 (mm_blk 163 0) [.ref o, mm_un] [] (mH h o ad I C) Q := by
  obtain ⟨b1, b2, b3⟩ := hS 0 (by decide)
  have loop : ∀ (k i : Nat) (g : Nat → Int32), k + i = 8 * (S 0).length → (∀ j, j < i → g j = C 15 j) → mm_Go E d 163 (mm_blk 163 1) [.ref o, .int (nI i)] [] (mH h o ad (uf I 16 (nI (S 0).length)) (uf C 17 g)) Q := by
    intro k
    induction k with
    | zero =>
      intro i g hk hg
      repeat (first | refine gi_con ?_ | refine gi_bip (Nat.le_of_ble_eq_true rfl) ?_ | refine gi_sip (Nat.le_of_ble_eq_true rfl) ?_ | refine gi_ldc ?_ | refine gi_add ?_ | refine gi_inc rfl ?_ | refine gi_sub (by omega) ?_ | refine gi_mul ?_ | refine go_nx rfl ?_)
      refine gm_get (.int (nI (S 0).length)) rfl rfl ?_
      repeat (first | refine gi_con ?_ | refine gi_bip (Nat.le_of_ble_eq_true rfl) ?_ | refine gi_sip (Nat.le_of_ble_eq_true rfl) ?_ | refine gi_ldc ?_ | refine gi_add ?_ | refine gi_inc rfl ?_ | refine gi_sub (by omega) ?_ | refine gi_mul ?_ | refine go_nx rfl ?_)
      first | refine gb_lt (by omega) (by omega) (fun c => ?_) (fun c => ?_) | refine gb_ge (by omega) (by omega) (fun c => ?_) (fun c => ?_) | refine gb_gt (by omega) (by omega) (fun c => ?_) (fun c => ?_) | refine gb_le (by omega) (by omega) (fun c => ?_) (fun c => ?_) | refine gb_eq (by omega) (by omega) (fun c => ?_) (fun c => ?_) | refine gb_ne (by omega) (by omega) (fun c => ?_) (fun c => ?_)
      · refine go_rt rfl ?_
        refine hq _ _ ⟨b1, uf_at _ _ _, fun k hk f hf => ?_⟩ (fun j hj => uf_ne hj) (fun j hj => uf_ne hj)
        rw [uf_at, hg _ (by omega)]
        have := b3 k hk f hf
        rwa [Nat.mul_zero, Nat.zero_add] at this
      · omega
    | succ k ih =>
      intro i g hk hg
      repeat (first | refine gi_con ?_ | refine gi_bip (Nat.le_of_ble_eq_true rfl) ?_ | refine gi_sip (Nat.le_of_ble_eq_true rfl) ?_ | refine gi_ldc ?_ | refine gi_add ?_ | refine gi_inc rfl ?_ | refine gi_sub (by omega) ?_ | refine gi_mul ?_ | refine go_nx rfl ?_)
      refine gm_get (.int (nI (S 0).length)) rfl rfl ?_
      repeat (first | refine gi_con ?_ | refine gi_bip (Nat.le_of_ble_eq_true rfl) ?_ | refine gi_sip (Nat.le_of_ble_eq_true rfl) ?_ | refine gi_ldc ?_ | refine gi_add ?_ | refine gi_inc rfl ?_ | refine gi_sub (by omega) ?_ | refine gi_mul ?_ | refine go_nx rfl ?_)
      first | refine gb_lt (by omega) (by omega) (fun c => ?_) (fun c => ?_) | refine gb_ge (by omega) (by omega) (fun c => ?_) (fun c => ?_) | refine gb_gt (by omega) (by omega) (fun c => ?_) (fun c => ?_) | refine gb_le (by omega) (by omega) (fun c => ?_) (fun c => ?_) | refine gb_eq (by omega) (by omega) (fun c => ?_) (fun c => ?_) | refine gb_ne (by omega) (by omega) (fun c => ?_) (fun c => ?_)
      · omega
      repeat (first | refine gi_con ?_ | refine gi_bip (Nat.le_of_ble_eq_true rfl) ?_ | refine gi_sip (Nat.le_of_ble_eq_true rfl) ?_ | refine gi_ldc ?_ | refine gi_add ?_ | refine gi_inc rfl ?_ | refine gi_sub (by omega) ?_ | refine gi_mul ?_ | refine go_nx rfl ?_)
      refine gm_get (.ref (ad 17)) rfl rfl ?_
      repeat (first | refine gi_con ?_ | refine gi_bip (Nat.le_of_ble_eq_true rfl) ?_ | refine gi_sip (Nat.le_of_ble_eq_true rfl) ?_ | refine gi_ldc ?_ | refine gi_add ?_ | refine gi_inc rfl ?_ | refine gi_sub (by omega) ?_ | refine gi_mul ?_ | refine go_nx rfl ?_)
      refine gm_get (.ref (ad 15)) rfl rfl ?_
      repeat (first | refine gi_con ?_ | refine gi_bip (Nat.le_of_ble_eq_true rfl) ?_ | refine gi_sip (Nat.le_of_ble_eq_true rfl) ?_ | refine gi_ldc ?_ | refine gi_add ?_ | refine gi_inc rfl ?_ | refine gi_sub (by omega) ?_ | refine gi_mul ?_ | refine go_nx rfl ?_)
      refine gm_ild hD (by decide) rfl (show i < 24000 by omega) (by decide) ?_
      repeat (first | refine gi_con ?_ | refine gi_bip (Nat.le_of_ble_eq_true rfl) ?_ | refine gi_sip (Nat.le_of_ble_eq_true rfl) ?_ | refine gi_ldc ?_ | refine gi_add ?_ | refine gi_inc rfl ?_ | refine gi_sub (by omega) ?_ | refine gi_mul ?_ | refine go_nx rfl ?_)
      refine gm_ist hD (by decide) rfl (show i < 8000 by omega) (by decide) ?_
      rw [uf_at, uf_uf, uf_ne (show (15 : Nat) ≠ 17 by decide)]
      repeat (first | refine gi_con ?_ | refine gi_bip (Nat.le_of_ble_eq_true rfl) ?_ | refine gi_sip (Nat.le_of_ble_eq_true rfl) ?_ | refine gi_ldc ?_ | refine gi_add ?_ | refine gi_inc rfl ?_ | refine gi_sub (by omega) ?_ | refine gi_mul ?_ | refine go_nx rfl ?_)
      refine go_jp rfl ?_
      refine ih (i + 1) _ (by omega) (fun j hj => ?_)
      by_cases hji : j = i
      · rw [hji, uf_at]
      · rw [uf_ne hji]
        exact hg j (by omega)
  repeat (first | refine gi_con ?_ | refine gi_bip (Nat.le_of_ble_eq_true rfl) ?_ | refine gi_sip (Nat.le_of_ble_eq_true rfl) ?_ | refine gi_ldc ?_ | refine gi_add ?_ | refine gi_inc rfl ?_ | refine gi_sub (by omega) ?_ | refine gi_mul ?_ | refine go_nx rfl ?_)
  refine gm_get (.ref (ad 14)) rfl rfl ?_
  repeat (first | refine gi_con ?_ | refine gi_bip (Nat.le_of_ble_eq_true rfl) ?_ | refine gi_sip (Nat.le_of_ble_eq_true rfl) ?_ | refine gi_ldc ?_ | refine gi_add ?_ | refine gi_inc rfl ?_ | refine gi_sub (by omega) ?_ | refine gi_mul ?_ | refine go_nx rfl ?_)
  refine gm_ild hD (by decide) rfl (show 0 < 3 by decide) (by decide) ?_
  rw [b2]
  refine gm_put 16 rfl rfl (by decide) rfl ?_
  repeat (first | refine gi_con ?_ | refine gi_bip (Nat.le_of_ble_eq_true rfl) ?_ | refine gi_sip (Nat.le_of_ble_eq_true rfl) ?_ | refine gi_ldc ?_ | refine gi_add ?_ | refine gi_inc rfl ?_ | refine gi_sub (by omega) ?_ | refine gi_mul ?_ | refine go_nx rfl ?_)
  refine go_jp rfl ?_
  have e : C = uf C 17 (C 17) := by
    funext j
    unfold uf
    by_cases h17 : j = 17
    · subst h17
      rfl
    · rw [if_neg h17]
  have := loop (8 * (S 0).length) 0 (C 17) (by omega) (fun j hj => by omega)
  rw [← e] at this
  exact this
theorem sp_mload {W : List qR} (hD : mD o ad) (hS : mS3 C S) (hW : mWt I C W) (hq : ∀ C', mS3 C' (uf S 0 W) → mFr C C' → Q none (mH h o ad I C')) : mm_Go E d 164 (mm_blk 164 0) [.ref o, mm_un] [] (mH h o ad I C) Q := by
  obtain ⟨w1, w2, w3⟩ := hW
  have loop : ∀ (k i : Nat) (g : Nat → Int32), k + i = 8 * W.length → (∀ j, j < i → g j = C 17 j) → (∀ j, 8000 ≤ j → g j = C 15 j) → mm_Go E d 164 (mm_blk 164 1) [.ref o, .int (nI i)] [] (mH h o ad I (uf (uf C 14 (uf (C 14) 0 (nI W.length))) 15 g)) Q := by
    intro k
    induction k with
    | zero =>
      intro i g hk hg hg2
      repeat (first | refine gi_con ?_ | refine gi_bip (Nat.le_of_ble_eq_true rfl) ?_ | refine gi_sip (Nat.le_of_ble_eq_true rfl) ?_ | refine gi_ldc ?_ | refine gi_add ?_ | refine gi_inc rfl ?_ | refine gi_sub (by omega) ?_ | refine gi_mul ?_ | refine go_nx rfl ?_)
      refine gm_get (.int (nI W.length)) rfl (by rw [← w2]; rfl) ?_
      repeat (first | refine gi_con ?_ | refine gi_bip (Nat.le_of_ble_eq_true rfl) ?_ | refine gi_sip (Nat.le_of_ble_eq_true rfl) ?_ | refine gi_ldc ?_ | refine gi_add ?_ | refine gi_inc rfl ?_ | refine gi_sub (by omega) ?_ | refine gi_mul ?_ | refine go_nx rfl ?_)
      first | refine gb_lt (by omega) (by omega) (fun c => ?_) (fun c => ?_) | refine gb_ge (by omega) (by omega) (fun c => ?_) (fun c => ?_) | refine gb_gt (by omega) (by omega) (fun c => ?_) (fun c => ?_) | refine gb_le (by omega) (by omega) (fun c => ?_) (fun c => ?_) | refine gb_eq (by omega) (by omega) (fun c => ?_) (fun c => ?_) | refine gb_ne (by omega) (by omega) (fun c => ?_) (fun c => ?_)
      · refine go_rt rfl ?_
        refine hq _ (fun r hr => ?_) (mFr_15 (mFr_14 (mFr_r C)))
        rw [uf_ne (show (14 : Nat) ≠ 15 by decide), uf_at, uf_at]
        obtain ⟨a1, a2, a3⟩ := hS r hr
        by_cases hr0 : r = 0
        · subst hr0
          rw [uf_at, uf_at]
          refine ⟨w1, rfl, fun k hk f hf => ?_⟩
          rw [Nat.mul_zero, Nat.zero_add, hg _ (by omega)]
          exact w3 k hk f hf
        · rw [uf_ne hr0, uf_ne hr0]
          refine ⟨a1, a2, fun k hk f hf => ?_⟩
          rw [hg2 _ (by omega)]
          exact a3 k hk f hf
      · omega
    | succ k ih =>
      intro i g hk hg hg2
      repeat (first | refine gi_con ?_ | refine gi_bip (Nat.le_of_ble_eq_true rfl) ?_ | refine gi_sip (Nat.le_of_ble_eq_true rfl) ?_ | refine gi_ldc ?_ | refine gi_add ?_ | refine gi_inc rfl ?_ | refine gi_sub (by omega) ?_ | refine gi_mul ?_ | refine go_nx rfl ?_)
      refine gm_get (.int (nI W.length)) rfl (by rw [← w2]; rfl) ?_
      repeat (first | refine gi_con ?_ | refine gi_bip (Nat.le_of_ble_eq_true rfl) ?_ | refine gi_sip (Nat.le_of_ble_eq_true rfl) ?_ | refine gi_ldc ?_ | refine gi_add ?_ | refine gi_inc rfl ?_ | refine gi_sub (by omega) ?_ | refine gi_mul ?_ | refine go_nx rfl ?_)
      first | refine gb_lt (by omega) (by omega) (fun c => ?_) (fun c => ?_) | refine gb_ge (by omega) (by omega) (fun c => ?_) (fun c => ?_) | refine gb_gt (by omega) (by omega) (fun c => ?_) (fun c => ?_) | refine gb_le (by omega) (by omega) (fun c => ?_) (fun c => ?_) | refine gb_eq (by omega) (by omega) (fun c => ?_) (fun c => ?_) | refine gb_ne (by omega) (by omega) (fun c => ?_) (fun c => ?_)
      · omega
      repeat (first | refine gi_con ?_ | refine gi_bip (Nat.le_of_ble_eq_true rfl) ?_ | refine gi_sip (Nat.le_of_ble_eq_true rfl) ?_ | refine gi_ldc ?_ | refine gi_add ?_ | refine gi_inc rfl ?_ | refine gi_sub (by omega) ?_ | refine gi_mul ?_ | refine go_nx rfl ?_)
      refine gm_get (.ref (ad 15)) rfl rfl ?_
      repeat (first | refine gi_con ?_ | refine gi_bip (Nat.le_of_ble_eq_true rfl) ?_ | refine gi_sip (Nat.le_of_ble_eq_true rfl) ?_ | refine gi_ldc ?_ | refine gi_add ?_ | refine gi_inc rfl ?_ | refine gi_sub (by omega) ?_ | refine gi_mul ?_ | refine go_nx rfl ?_)
      refine gm_get (.ref (ad 17)) rfl rfl ?_
      repeat (first | refine gi_con ?_ | refine gi_bip (Nat.le_of_ble_eq_true rfl) ?_ | refine gi_sip (Nat.le_of_ble_eq_true rfl) ?_ | refine gi_ldc ?_ | refine gi_add ?_ | refine gi_inc rfl ?_ | refine gi_sub (by omega) ?_ | refine gi_mul ?_ | refine go_nx rfl ?_)
      refine gm_ild hD (by decide) rfl (show i < 8000 by omega) (by decide) ?_
      repeat (first | refine gi_con ?_ | refine gi_bip (Nat.le_of_ble_eq_true rfl) ?_ | refine gi_sip (Nat.le_of_ble_eq_true rfl) ?_ | refine gi_ldc ?_ | refine gi_add ?_ | refine gi_inc rfl ?_ | refine gi_sub (by omega) ?_ | refine gi_mul ?_ | refine go_nx rfl ?_)
      refine gm_ist hD (by decide) rfl (show i < 24000 by omega) (by decide) ?_
      rw [uf_at, uf_uf, uf_ne (show (17 : Nat) ≠ 15 by decide), uf_ne (show (17 : Nat) ≠ 14 by decide)]
      repeat (first | refine gi_con ?_ | refine gi_bip (Nat.le_of_ble_eq_true rfl) ?_ | refine gi_sip (Nat.le_of_ble_eq_true rfl) ?_ | refine gi_ldc ?_ | refine gi_add ?_ | refine gi_inc rfl ?_ | refine gi_sub (by omega) ?_ | refine gi_mul ?_ | refine go_nx rfl ?_)
      refine go_jp rfl ?_
      refine ih (i + 1) _ (by omega) (fun j hj => ?_) (fun j hj => ?_)
      · by_cases hji : j = i
        · rw [hji, uf_at]
        · rw [uf_ne hji]
          exact hg j (by omega)
      · rw [uf_ne (by omega)]
        exact hg2 j hj
  repeat (first | refine gi_con ?_ | refine gi_bip (Nat.le_of_ble_eq_true rfl) ?_ | refine gi_sip (Nat.le_of_ble_eq_true rfl) ?_ | refine gi_ldc ?_ | refine gi_add ?_ | refine gi_inc rfl ?_ | refine gi_sub (by omega) ?_ | refine gi_mul ?_ | refine go_nx rfl ?_)
  refine gm_get (.ref (ad 14)) rfl rfl ?_
  repeat (first | refine gi_con ?_ | refine gi_bip (Nat.le_of_ble_eq_true rfl) ?_ | refine gi_sip (Nat.le_of_ble_eq_true rfl) ?_ | refine gi_ldc ?_ | refine gi_add ?_ | refine gi_inc rfl ?_ | refine gi_sub (by omega) ?_ | refine gi_mul ?_ | refine go_nx rfl ?_)
  refine gm_get (.int (nI W.length)) rfl (by rw [← w2]; rfl) ?_
  repeat (first | refine gi_con ?_ | refine gi_bip (Nat.le_of_ble_eq_true rfl) ?_ | refine gi_sip (Nat.le_of_ble_eq_true rfl) ?_ | refine gi_ldc ?_ | refine gi_add ?_ | refine gi_inc rfl ?_ | refine gi_sub (by omega) ?_ | refine gi_mul ?_ | refine go_nx rfl ?_)
  refine gm_ist hD (by decide) rfl (show 0 < 3 by decide) (by decide) ?_
  repeat (first | refine gi_con ?_ | refine gi_bip (Nat.le_of_ble_eq_true rfl) ?_ | refine gi_sip (Nat.le_of_ble_eq_true rfl) ?_ | refine gi_ldc ?_ | refine gi_add ?_ | refine gi_inc rfl ?_ | refine gi_sub (by omega) ?_ | refine gi_mul ?_ | refine go_nx rfl ?_)
  refine go_jp rfl ?_
  have e : uf C 14 (uf (C 14) 0 (nI W.length)) = uf (uf C 14 (uf (C 14) 0 (nI W.length))) 15 (C 15) := by
    funext j
    unfold uf
    by_cases h15 : j = 15
    · subst h15
      rfl
    · rw [if_neg h15]
  rw [e]
  exact loop (8 * W.length) 0 (C 15) (by omega) (fun j hj => by omega) (fun j _ => rfl)
theorem go_rtB {m pc : Nat} {is : List mmI} {L : List Value} {h : mmH} {ex : List Nat} {b : Bool} (he : mm_k0 ex = 1) (hq : Q (some (.int (q_t b))) h) : mm_Go E d m ((pc, .ireturn, ex) :: is) L [.int (q_t b)] h Q := by
  refine go_rt (v := some (.int (q_t b))) ?_ hq
  show (if mm_fit (mm_k0 ex) (.int (q_t b)) = true then _ else _) = _
  rw [he, if_pos (by cases b <;> rfl)]
theorem sp_mbounds {k : Nat} {K : List (Nat × Nat)} (hd : 48 ≤ d) (hD : mD o ad) (hC : ∀ j, j < 22100 → C 1 j = sb_b (R j)) (hR : ∀ j, R j < 256) (hw : mW R 0 n B) (hS : mS3 C S) (hK : mK I C K) (hk : k < K.length) (hcok : q_cok B n (K.getD k (0, 0)))
    (hq : ∀ C' S', mS3 C' S' → (∀ l, q_bnd (q_ord B B 17) B (K.getD k (0, 0)) = some l → S' 0 = l) → mFr C C' → Q (some (.int (q_t (q_bnd (q_ord B B 17) B (K.getD k (0, 0))).isSome))) (mH h o ad I C')) : mm_Go E d 148 (mm_blk 148 0) [.ref o, .int (nI 0), .int (nI k), .int (nI 1), .int (nI 2)] [] (mH h o ad I C) Q := by
  obtain ⟨k1, k2, k3⟩ := hK
  obtain ⟨e12, e13⟩ := k3 k hk
  obtain ⟨⟨lev, h1, h2⟩, h3, h4, h5, h6⟩ := hcok
  unfold q_bnd at hq
  repeat (first | refine gi_con ?_ | refine gi_bip (Nat.le_of_ble_eq_true rfl) ?_ | refine gi_sip (Nat.le_of_ble_eq_true rfl) ?_ | refine gi_ldc ?_ | refine gi_add ?_ | refine gi_inc rfl ?_ | refine gi_sub (by omega) ?_ | refine gi_mul ?_ | refine go_nx rfl ?_)
  refine gm_get (.ref (ad 12)) rfl rfl ?_
  repeat (first | refine gi_con ?_ | refine gi_bip (Nat.le_of_ble_eq_true rfl) ?_ | refine gi_sip (Nat.le_of_ble_eq_true rfl) ?_ | refine gi_ldc ?_ | refine gi_add ?_ | refine gi_inc rfl ?_ | refine gi_sub (by omega) ?_ | refine gi_mul ?_ | refine go_nx rfl ?_)
  refine gm_ild hD (by decide) rfl (show k < 120 by omega) (by decide) ?_
  rw [e12]
  repeat (first | refine gi_con ?_ | refine gi_bip (Nat.le_of_ble_eq_true rfl) ?_ | refine gi_sip (Nat.le_of_ble_eq_true rfl) ?_ | refine gi_ldc ?_ | refine gi_add ?_ | refine gi_inc rfl ?_ | refine gi_sub (by omega) ?_ | refine gi_mul ?_ | refine go_nx rfl ?_)
  first | refine gb_lt (by omega) (by omega) (fun c1 => ?_) (fun c1 => ?_) | refine gb_ge (by omega) (by omega) (fun c1 => ?_) (fun c1 => ?_) | refine gb_gt (by omega) (by omega) (fun c1 => ?_) (fun c1 => ?_) | refine gb_le (by omega) (by omega) (fun c1 => ?_) (fun c1 => ?_) | refine gb_eq (by omega) (by omega) (fun c1 => ?_) (fun c1 => ?_) | refine gb_ne (by omega) (by omega) (fun c1 => ?_) (fun c1 => ?_)
  · rw [if_neg c1] at hq
    repeat (first | refine gi_con ?_ | refine gi_bip (Nat.le_of_ble_eq_true rfl) ?_ | refine gi_sip (Nat.le_of_ble_eq_true rfl) ?_ | refine gi_ldc ?_ | refine gi_add ?_ | refine gi_inc rfl ?_ | refine gi_sub (by omega) ?_ | refine gi_mul ?_ | refine go_nx rfl ?_)
    refine gm_get (.ref (ad 12)) rfl rfl ?_
    repeat (first | refine gi_con ?_ | refine gi_bip (Nat.le_of_ble_eq_true rfl) ?_ | refine gi_sip (Nat.le_of_ble_eq_true rfl) ?_ | refine gi_ldc ?_ | refine gi_add ?_ | refine gi_inc rfl ?_ | refine gi_sub (by omega) ?_ | refine gi_mul ?_ | refine go_nx rfl ?_)
    refine gm_ild hD (by decide) rfl (show k < 120 by omega) (by decide) ?_
    repeat (first | refine gi_con ?_ | refine gi_bip (Nat.le_of_ble_eq_true rfl) ?_ | refine gi_sip (Nat.le_of_ble_eq_true rfl) ?_ | refine gi_ldc ?_ | refine gi_add ?_ | refine gi_inc rfl ?_ | refine gi_sub (by omega) ?_ | refine gi_mul ?_ | refine go_nx rfl ?_)
    refine gm_get (.ref (ad 13)) rfl rfl ?_
    repeat (first | refine gi_con ?_ | refine gi_bip (Nat.le_of_ble_eq_true rfl) ?_ | refine gi_sip (Nat.le_of_ble_eq_true rfl) ?_ | refine gi_ldc ?_ | refine gi_add ?_ | refine gi_inc rfl ?_ | refine gi_sub (by omega) ?_ | refine gi_mul ?_ | refine go_nx rfl ?_)
    refine gm_ild hD (by decide) rfl (show k < 120 by omega) (by decide) ?_
    rw [e12, e13]
    repeat (first | refine gi_con ?_ | refine gi_bip (Nat.le_of_ble_eq_true rfl) ?_ | refine gi_sip (Nat.le_of_ble_eq_true rfl) ?_ | refine gi_ldc ?_ | refine gi_add ?_ | refine gi_inc rfl ?_ | refine gi_sub (by omega) ?_ | refine gi_mul ?_ | refine go_nx rfl ?_)
    refine go_step ?_
    refine g_callV (by decide) (by decide) (Nat.le_of_ble_eq_true rfl) (Nat.le_of_ble_eq_true rfl) mH_rcv (by omega) (Nat.le_of_ble_eq_true rfl) rfl ?_
    refine sp_mwb (s := 0) (lev := lev) (by omega) hD hC hR hw hS (by decide) h2 h1 ⟨h3, by omega⟩ h5 (fun C2 hS2 hF2 => ?_)
    repeat (first | refine gi_con ?_ | refine gi_bip (Nat.le_of_ble_eq_true rfl) ?_ | refine gi_sip (Nat.le_of_ble_eq_true rfl) ?_ | refine gi_ldc ?_ | refine gi_add ?_ | refine gi_inc rfl ?_ | refine gi_sub (by omega) ?_ | refine gi_mul ?_ | refine go_nx rfl ?_)
    refine go_jp rfl ?_
    refine go_rtB rfl (hq C2 _ hS2 (fun l hl => ?_) hF2)
    rw [uf_at, hl]
    rfl
  · rw [if_pos c1] at hq
    obtain ⟨h8, h9⟩ := h6 c1
    repeat (first | refine gi_con ?_ | refine gi_bip (Nat.le_of_ble_eq_true rfl) ?_ | refine gi_sip (Nat.le_of_ble_eq_true rfl) ?_ | refine gi_ldc ?_ | refine gi_add ?_ | refine gi_inc rfl ?_ | refine gi_sub (by omega) ?_ | refine gi_mul ?_ | refine go_nx rfl ?_)
    refine gm_get (.ref (ad 13)) rfl rfl ?_
    repeat (first | refine gi_con ?_ | refine gi_bip (Nat.le_of_ble_eq_true rfl) ?_ | refine gi_sip (Nat.le_of_ble_eq_true rfl) ?_ | refine gi_ldc ?_ | refine gi_add ?_ | refine gi_inc rfl ?_ | refine gi_sub (by omega) ?_ | refine gi_mul ?_ | refine go_nx rfl ?_)
    refine gm_ild hD (by decide) rfl (show k < 120 by omega) (by decide) ?_
    rw [e13]
    repeat (first | refine gi_con ?_ | refine gi_bip (Nat.le_of_ble_eq_true rfl) ?_ | refine gi_sip (Nat.le_of_ble_eq_true rfl) ?_ | refine gi_ldc ?_ | refine gi_add ?_ | refine gi_inc rfl ?_ | refine gi_sub (by omega) ?_ | refine gi_mul ?_ | refine go_nx rfl ?_)
    refine go_step ?_
    refine g_callV (by decide) (by decide) (Nat.le_of_ble_eq_true rfl) (Nat.le_of_ble_eq_true rfl) mH_rcv (by omega) (Nat.le_of_ble_eq_true rfl) rfl ?_
    refine sp_mwe (s := 0) (b := 1) (c := 2) (lev := lev) (by omega) hD hC hR hw hS (by decide) (by decide) (by decide) (by decide) (by decide) (by decide) h2 h1 h8 h9 (fun C2 S2 hS2 hs2 hF2 => ?_)
    repeat (first | refine gi_con ?_ | refine gi_bip (Nat.le_of_ble_eq_true rfl) ?_ | refine gi_sip (Nat.le_of_ble_eq_true rfl) ?_ | refine gi_ldc ?_ | refine gi_add ?_ | refine gi_inc rfl ?_ | refine gi_sub (by omega) ?_ | refine gi_mul ?_ | refine go_nx rfl ?_)
    refine go_jp rfl ?_
    refine go_rtB rfl (hq C2 S2 hS2 (fun l hl => ?_) hF2)
    rw [hs2, hl]
    rfl
end M
