/-! what a filter says of a path -/
def q_pn (B : Nat → Nat) (e : Nat) (P : Nat → Nat) (m : Nat) : Bool := decide (q_bytes (fun i => B (e + 1 + i)) (q_ne B e - (e + 1)) P m = 0)
def q_add (B : Nat → Nat) (c e : Nat) : List (Nat × Nat) := if 7 < c ∨ c = 7 ∧ q_ofi B e = false then [] else [(c, e)]
def q_box_els (B : Nat → Nat) (v : Nat) : List Nat := q_els B (q_last B v) 2001 (v + 4)
def q_colE (B : Nat → Nat) (P : Nat → Nat) (m : Nat) (sub : Nat → List (Nat × Nat)) (e : Nat) : List (Nat × Nat) := if q_word B e = 2 then (q_box_els B (q_val B e)).flatMap (fun i => sub (q_val B i)) else if q_pn B e P m = true then (if q_cond B e = true then (q_box_els B (q_val B e)).flatMap (fun c => q_add B (q_nof (q_word B c)) c) else q_add B 1 e) else []
def q_col (B : Nat → Nat) (P : Nat → Nat) (m : Nat) : Nat → Nat → List (Nat × Nat)
  | 0, _ => []
  | k + 1, v => (q_box_els B v).flatMap (q_colE B P m (q_col B P m k))
/-- the conditions found so far -/
def mK (I : Nat → Int32) (C : Nat → Nat → Int32) (K : List (Nat × Nat)) : Prop := K.length ≤ 110 ∧ I 11 = nI K.length ∧ ∀ k, k < K.length → C 12 k = nI (K.getD k (0, 0)).1 ∧ C 13 k = nI (K.getD k (0, 0)).2
/-- all but the conditions stays -/
def mFk (I I' : Nat → Int32) (C C' : Nat → Nat → Int32) : Prop := (∀ j, j ≠ 11 → I' j = I j) ∧ ∀ j, j ≠ 12 → j ≠ 13 → C' j = C j
theorem mFk_r (I : Nat → Int32) (C : Nat → Nat → Int32) : mFk I I C C := ⟨fun _ _ => rfl, fun _ _ _ => rfl⟩
theorem mFk_t {I I' I'' : Nat → Int32} {C C' C'' : Nat → Nat → Int32} (h1 : mFk I I' C C') (h2 : mFk I' I'' C' C'') : mFk I I'' C C'' := ⟨fun j a => (h2.1 j a).trans (h1.1 j a), fun j a b => (h2.2 j a b).trans (h1.2 j a b)⟩
section M
variable {E : mmE} {d : Nat} {h : mmH} {Q : Option Value → mmH → Prop} {o : Nat} {ad : Nat → Nat} {I : Nat → Int32} {C : Nat → Nat → Int32} {R B P : Nat → Nat} {n m fr : Nat}
theorem sp_mpn {st e : Nat} {h : mmH} (hd : 1 ≤ d) (hm : mSt h o st R) (hw : mW R 0 n B) (hok : q_ok B n e) (hP : ∀ j, j < m → R (fr + j) = P j) (hPb : ∀ j, P j < 256) (hfr : fr + m ≤ 22100) (hmm : m ≤ 2000) (hq : Q (some (.int (q_t (q_pn B e P m)))) h) : mm_Go E d 145 (mm_blk 145 0) [.ref o, .int (nI e), .int (nI fr), .int (nI m), mm_un] [] h Q := by
  have w2 := hw.2.1
  have hne := q_ne_is hw.2.2 (show e ≤ 2000 by have := hok.1; have := hw.2.2.1; omega)
  have hn1 := hok.2.1
  unfold q_pn at hq
  have loop : ∀ (k i : Nat), k + i = m → q_ne B e - (e + 1) = m → (∀ j, j < i → B (e + 1 + j) = P j) → mm_Go E d 145 (mm_blk 145 2) [.ref o, .int (nI e), .int (nI fr), .int (nI m), .int (nI i)] [] h Q := by
    intro k
    induction k with
    | zero =>
      intro i hk hl hj
      rw [decide_eq_true (q_bytes_0.mpr ⟨hl, fun j hj2 => hj j (by omega)⟩)] at hq
      repeat (first | refine gi_con ?_ | refine gi_bip (Nat.le_of_ble_eq_true rfl) ?_ | refine gi_sip (Nat.le_of_ble_eq_true rfl) ?_ | refine gi_ldc ?_ | refine gi_add ?_ | refine gi_inc rfl ?_ | refine gi_sub (by omega) ?_ | refine gi_mul ?_ | refine go_nx rfl ?_)
      first | refine gb_lt (by omega) (by omega) (fun c1 => ?_) (fun c1 => ?_) | refine gb_ge (by omega) (by omega) (fun c1 => ?_) (fun c1 => ?_) | refine gb_gt (by omega) (by omega) (fun c1 => ?_) (fun c1 => ?_) | refine gb_le (by omega) (by omega) (fun c1 => ?_) (fun c1 => ?_) | refine gb_eq (by omega) (by omega) (fun c1 => ?_) (fun c1 => ?_) | refine gb_ne (by omega) (by omega) (fun c1 => ?_) (fun c1 => ?_)
      · repeat (first | refine gi_con ?_ | refine gi_bip (Nat.le_of_ble_eq_true rfl) ?_ | refine gi_sip (Nat.le_of_ble_eq_true rfl) ?_ | refine gi_ldc ?_ | refine gi_add ?_ | refine gi_inc rfl ?_ | refine gi_sub (by omega) ?_ | refine gi_mul ?_ | refine go_nx rfl ?_)
        refine go_rt rfl ?_
        exact hq
      · omega
    | succ k ih =>
      intro i hk hl hj
      have hBi := hw.2.2.2.1 (e + 1 + i)
      have hPi := hPb i
      repeat (first | refine gi_con ?_ | refine gi_bip (Nat.le_of_ble_eq_true rfl) ?_ | refine gi_sip (Nat.le_of_ble_eq_true rfl) ?_ | refine gi_ldc ?_ | refine gi_add ?_ | refine gi_inc rfl ?_ | refine gi_sub (by omega) ?_ | refine gi_mul ?_ | refine go_nx rfl ?_)
      first | refine gb_lt (by omega) (by omega) (fun c1 => ?_) (fun c1 => ?_) | refine gb_ge (by omega) (by omega) (fun c1 => ?_) (fun c1 => ?_) | refine gb_gt (by omega) (by omega) (fun c1 => ?_) (fun c1 => ?_) | refine gb_le (by omega) (by omega) (fun c1 => ?_) (fun c1 => ?_) | refine gb_eq (by omega) (by omega) (fun c1 => ?_) (fun c1 => ?_) | refine gb_ne (by omega) (by omega) (fun c1 => ?_) (fun c1 => ?_)
      · omega
      repeat (first | refine gi_con ?_ | refine gi_bip (Nat.le_of_ble_eq_true rfl) ?_ | refine gi_sip (Nat.le_of_ble_eq_true rfl) ?_ | refine gi_ldc ?_ | refine gi_add ?_ | refine gi_inc rfl ?_ | refine gi_sub (by omega) ?_ | refine gi_mul ?_ | refine go_nx rfl ?_)
      refine gm_gs hm rfl ?_
      repeat (first | refine gi_con ?_ | refine gi_bip (Nat.le_of_ble_eq_true rfl) ?_ | refine gi_sip (Nat.le_of_ble_eq_true rfl) ?_ | refine gi_ldc ?_ | refine gi_add ?_ | refine gi_inc rfl ?_ | refine gi_sub (by omega) ?_ | refine gi_mul ?_ | refine go_nx rfl ?_)
      refine gm_ld hm (by omega) ?_
      rw [show R (e + 1 + i) = B (e + 1 + i) from by have := hw.1 (e + 1 + i) (by omega); rwa [Nat.zero_add] at this]
      repeat (first | refine gi_con ?_ | refine gi_bip (Nat.le_of_ble_eq_true rfl) ?_ | refine gi_sip (Nat.le_of_ble_eq_true rfl) ?_ | refine gi_ldc ?_ | refine gi_add ?_ | refine gi_inc rfl ?_ | refine gi_sub (by omega) ?_ | refine gi_mul ?_ | refine go_nx rfl ?_)
      refine gm_gs hm rfl ?_
      repeat (first | refine gi_con ?_ | refine gi_bip (Nat.le_of_ble_eq_true rfl) ?_ | refine gi_sip (Nat.le_of_ble_eq_true rfl) ?_ | refine gi_ldc ?_ | refine gi_add ?_ | refine gi_inc rfl ?_ | refine gi_sub (by omega) ?_ | refine gi_mul ?_ | refine go_nx rfl ?_)
      refine gm_ld hm (by omega) ?_
      rw [hP i (by omega)]
      refine gs_beq hBi hPi (fun c2 => ?_) (fun c2 => ?_)
      · repeat (first | refine gi_con ?_ | refine gi_bip (Nat.le_of_ble_eq_true rfl) ?_ | refine gi_sip (Nat.le_of_ble_eq_true rfl) ?_ | refine gi_ldc ?_ | refine gi_add ?_ | refine gi_inc rfl ?_ | refine gi_sub (by omega) ?_ | refine gi_mul ?_ | refine go_nx rfl ?_)
        refine go_jp rfl ?_
        refine ih (i + 1) (by omega) hl (fun j hj2 => ?_)
        by_cases hji : j = i
        · rw [hji]; exact c2
        · exact hj j (by omega)
      · rw [decide_eq_false (fun q => c2 ((q_bytes_0.mp q).2 i (by omega)))] at hq
        repeat (first | refine gi_con ?_ | refine gi_bip (Nat.le_of_ble_eq_true rfl) ?_ | refine gi_sip (Nat.le_of_ble_eq_true rfl) ?_ | refine gi_ldc ?_ | refine gi_add ?_ | refine gi_inc rfl ?_ | refine gi_sub (by omega) ?_ | refine gi_mul ?_ | refine go_nx rfl ?_)
        refine go_rt rfl ?_
        exact hq
  repeat (first | refine gi_con ?_ | refine gi_bip (Nat.le_of_ble_eq_true rfl) ?_ | refine gi_sip (Nat.le_of_ble_eq_true rfl) ?_ | refine gi_ldc ?_ | refine gi_add ?_ | refine gi_inc rfl ?_ | refine gi_sub (by omega) ?_ | refine gi_mul ?_ | refine go_nx rfl ?_)
  refine go_step ?_
  refine g_callV (by decide) (by decide) (Nat.le_of_ble_eq_true rfl) (Nat.le_of_ble_eq_true rfl) (mSt_rcv hm) (by omega) (Nat.le_of_ble_eq_true rfl) rfl ?_
  refine z_ne hm hw hn1 ?_
  repeat (first | refine gi_con ?_ | refine gi_bip (Nat.le_of_ble_eq_true rfl) ?_ | refine gi_sip (Nat.le_of_ble_eq_true rfl) ?_ | refine gi_ldc ?_ | refine gi_add ?_ | refine gi_inc rfl ?_ | refine gi_sub (by omega) ?_ | refine gi_mul ?_ | refine go_nx rfl ?_)
  first | refine gb_lt (by omega) (by omega) (fun c1 => ?_) (fun c1 => ?_) | refine gb_ge (by omega) (by omega) (fun c1 => ?_) (fun c1 => ?_) | refine gb_gt (by omega) (by omega) (fun c1 => ?_) (fun c1 => ?_) | refine gb_le (by omega) (by omega) (fun c1 => ?_) (fun c1 => ?_) | refine gb_eq (by omega) (by omega) (fun c1 => ?_) (fun c1 => ?_) | refine gb_ne (by omega) (by omega) (fun c1 => ?_) (fun c1 => ?_)
  · repeat (first | refine gi_con ?_ | refine gi_bip (Nat.le_of_ble_eq_true rfl) ?_ | refine gi_sip (Nat.le_of_ble_eq_true rfl) ?_ | refine gi_ldc ?_ | refine gi_add ?_ | refine gi_inc rfl ?_ | refine gi_sub (by omega) ?_ | refine gi_mul ?_ | refine go_nx rfl ?_)
    refine go_jp rfl ?_
    exact loop m 0 (by omega) (by omega) (fun j hj => by omega)
  · rw [decide_eq_false (fun q => c1 (by have := (q_bytes_0.mp q).1; omega))] at hq
    repeat (first | refine gi_con ?_ | refine gi_bip (Nat.le_of_ble_eq_true rfl) ?_ | refine gi_sip (Nat.le_of_ble_eq_true rfl) ?_ | refine gi_ldc ?_ | refine gi_add ?_ | refine gi_inc rfl ?_ | refine gi_sub (by omega) ?_ | refine gi_mul ?_ | refine go_nx rfl ?_)
    refine go_rt rfl ?_
    exact hq
theorem sp_madd {c e lev last : Nat} {K : List (Nat × Nat)} (hd : 4 ≤ d) (hD : mD o ad) (hC : ∀ j, j < 22100 → C 1 j = sb_b (R j)) (hR : ∀ j, R j < 256) (hw : mW R 0 n B) (hok : q_ok B n e) (hln : last ≤ n) (hbx : B e = 3 → q_box (q_u8 B) B lev (q_val B e) last false = true) (hc : c ≤ 12) (hK : mK I C K) (hcap : K.length < 110)
    (hq : ∀ I' C', mK I' C' (K ++ q_add B c e) → mFk I I' C C' → Q none (mH h o ad I' C')) : mm_Go E d 146 (mm_blk 146 0) [.ref o, .int (nI c), .int (nI e)] [] (mH h o ad I C) Q := by
  have hm : mSt (mH h o ad I C) o (ad 1) R := mH_st hD hC hR
  obtain ⟨k1, k2, k3⟩ := hK
  unfold q_add at hq
  have one : (7 < c ∨ c = 7 ∧ q_ofi B e = false) → mm_Go E d 146 (mm_blk 146 1) [.ref o, .int (nI c), .int (nI e)] [] (mH h o ad I C) Q := by
    intro hh
    rw [if_pos hh, List.append_nil] at hq
    refine go_rt rfl ?_
    exact hq I C ⟨k1, k2, k3⟩ (mFk_r I C)
  have two : ¬ (7 < c ∨ c = 7 ∧ q_ofi B e = false) → mm_Go E d 146 (mm_blk 146 2) [.ref o, .int (nI c), .int (nI e)] [] (mH h o ad I C) Q := by
    intro hh
    rw [if_neg hh] at hq
    repeat (first | refine gi_con ?_ | refine gi_bip (Nat.le_of_ble_eq_true rfl) ?_ | refine gi_sip (Nat.le_of_ble_eq_true rfl) ?_ | refine gi_ldc ?_ | refine gi_add ?_ | refine gi_inc rfl ?_ | refine gi_sub (by omega) ?_ | refine gi_mul ?_ | refine go_nx rfl ?_)
    refine gm_get (.ref (ad 12)) rfl rfl ?_
    repeat (first | refine gi_con ?_ | refine gi_bip (Nat.le_of_ble_eq_true rfl) ?_ | refine gi_sip (Nat.le_of_ble_eq_true rfl) ?_ | refine gi_ldc ?_ | refine gi_add ?_ | refine gi_inc rfl ?_ | refine gi_sub (by omega) ?_ | refine gi_mul ?_ | refine go_nx rfl ?_)
    refine gm_get (.int (nI K.length)) rfl (by rw [← k2]; rfl) ?_
    repeat (first | refine gi_con ?_ | refine gi_bip (Nat.le_of_ble_eq_true rfl) ?_ | refine gi_sip (Nat.le_of_ble_eq_true rfl) ?_ | refine gi_ldc ?_ | refine gi_add ?_ | refine gi_inc rfl ?_ | refine gi_sub (by omega) ?_ | refine gi_mul ?_ | refine go_nx rfl ?_)
    refine gm_ist hD (by decide) rfl (show K.length < 120 by omega) (by decide) ?_
    repeat (first | refine gi_con ?_ | refine gi_bip (Nat.le_of_ble_eq_true rfl) ?_ | refine gi_sip (Nat.le_of_ble_eq_true rfl) ?_ | refine gi_ldc ?_ | refine gi_add ?_ | refine gi_inc rfl ?_ | refine gi_sub (by omega) ?_ | refine gi_mul ?_ | refine go_nx rfl ?_)
    refine gm_get (.ref (ad 13)) rfl rfl ?_
    repeat (first | refine gi_con ?_ | refine gi_bip (Nat.le_of_ble_eq_true rfl) ?_ | refine gi_sip (Nat.le_of_ble_eq_true rfl) ?_ | refine gi_ldc ?_ | refine gi_add ?_ | refine gi_inc rfl ?_ | refine gi_sub (by omega) ?_ | refine gi_mul ?_ | refine go_nx rfl ?_)
    refine gm_get (.int (nI K.length)) rfl (by rw [← k2]; rfl) ?_
    repeat (first | refine gi_con ?_ | refine gi_bip (Nat.le_of_ble_eq_true rfl) ?_ | refine gi_sip (Nat.le_of_ble_eq_true rfl) ?_ | refine gi_ldc ?_ | refine gi_add ?_ | refine gi_inc rfl ?_ | refine gi_sub (by omega) ?_ | refine gi_mul ?_ | refine go_nx rfl ?_)
    refine gm_ist hD (by decide) rfl (show K.length < 120 by omega) (by decide) ?_
    rw [uf_ne (show (13 : Nat) ≠ 12 by decide)]
    repeat (first | refine gi_con ?_ | refine gi_bip (Nat.le_of_ble_eq_true rfl) ?_ | refine gi_sip (Nat.le_of_ble_eq_true rfl) ?_ | refine gi_ldc ?_ | refine gi_add ?_ | refine gi_inc rfl ?_ | refine gi_sub (by omega) ?_ | refine gi_mul ?_ | refine go_nx rfl ?_)
    refine gm_get (.int (nI K.length)) rfl (by rw [← k2]; rfl) ?_
    repeat (first | refine gi_con ?_ | refine gi_bip (Nat.le_of_ble_eq_true rfl) ?_ | refine gi_sip (Nat.le_of_ble_eq_true rfl) ?_ | refine gi_ldc ?_ | refine gi_add ?_ | refine gi_inc rfl ?_ | refine gi_sub (by omega) ?_ | refine gi_mul ?_ | refine go_nx rfl ?_)
    refine gm_put 11 rfl rfl (by decide) rfl ?_
    refine go_rt rfl ?_
    have hl : (K ++ [(c, e)]).length = K.length + 1 := by rw [List.length_append]; rfl
    refine hq _ _ ⟨by omega, by rw [uf_at, hl], fun k hk => ?_⟩ ⟨fun j hj => uf_ne hj, fun j h12 h13 => by rw [uf_ne h13, uf_ne h12]⟩
    rw [uf_at, uf_ne (show (12 : Nat) ≠ 13 by decide), uf_at]
    by_cases hkl : k = K.length
    · rw [hkl, uf_at, uf_at, List.getD_eq_getElem?_getD, List.getElem?_append_right (Nat.le_refl _), Nat.sub_self]
      exact ⟨rfl, rfl⟩
    · rw [uf_ne hkl, uf_ne hkl, List.getD_eq_getElem?_getD, List.getElem?_append_left (by omega), ← List.getD_eq_getElem?_getD]
      exact k3 k (by omega)
  repeat (first | refine gi_con ?_ | refine gi_bip (Nat.le_of_ble_eq_true rfl) ?_ | refine gi_sip (Nat.le_of_ble_eq_true rfl) ?_ | refine gi_ldc ?_ | refine gi_add ?_ | refine gi_inc rfl ?_ | refine gi_sub (by omega) ?_ | refine gi_mul ?_ | refine go_nx rfl ?_)
  first | refine gb_lt (by omega) (by omega) (fun c1 => ?_) (fun c1 => ?_) | refine gb_ge (by omega) (by omega) (fun c1 => ?_) (fun c1 => ?_) | refine gb_gt (by omega) (by omega) (fun c1 => ?_) (fun c1 => ?_) | refine gb_le (by omega) (by omega) (fun c1 => ?_) (fun c1 => ?_) | refine gb_eq (by omega) (by omega) (fun c1 => ?_) (fun c1 => ?_) | refine gb_ne (by omega) (by omega) (fun c1 => ?_) (fun c1 => ?_)
  · exact one (Or.inl c1)
  repeat (first | refine gi_con ?_ | refine gi_bip (Nat.le_of_ble_eq_true rfl) ?_ | refine gi_sip (Nat.le_of_ble_eq_true rfl) ?_ | refine gi_ldc ?_ | refine gi_add ?_ | refine gi_inc rfl ?_ | refine gi_sub (by omega) ?_ | refine gi_mul ?_ | refine go_nx rfl ?_)
  first | refine gb_lt (by omega) (by omega) (fun c2 => ?_) (fun c2 => ?_) | refine gb_ge (by omega) (by omega) (fun c2 => ?_) (fun c2 => ?_) | refine gb_gt (by omega) (by omega) (fun c2 => ?_) (fun c2 => ?_) | refine gb_le (by omega) (by omega) (fun c2 => ?_) (fun c2 => ?_) | refine gb_eq (by omega) (by omega) (fun c2 => ?_) (fun c2 => ?_) | refine gb_ne (by omega) (by omega) (fun c2 => ?_) (fun c2 => ?_)
  · exact two (fun q => q.elim (by omega) (fun q => c2 q.1))
  repeat (first | refine gi_con ?_ | refine gi_bip (Nat.le_of_ble_eq_true rfl) ?_ | refine gi_sip (Nat.le_of_ble_eq_true rfl) ?_ | refine gi_ldc ?_ | refine gi_add ?_ | refine gi_inc rfl ?_ | refine gi_sub (by omega) ?_ | refine gi_mul ?_ | refine go_nx rfl ?_)
  refine go_step ?_
  refine g_callV (by decide) (by decide) (Nat.le_of_ble_eq_true rfl) (Nat.le_of_ble_eq_true rfl) mH_rcv (by omega) (Nat.le_of_ble_eq_true rfl) rfl ?_
  refine z_ofi (by omega) hm hw hok hln hbx ?_
  repeat (first | refine gi_con ?_ | refine gi_bip (Nat.le_of_ble_eq_true rfl) ?_ | refine gi_sip (Nat.le_of_ble_eq_true rfl) ?_ | refine gi_ldc ?_ | refine gi_add ?_ | refine gi_inc rfl ?_ | refine gi_sub (by omega) ?_ | refine gi_mul ?_ | refine go_nx rfl ?_)
  first | refine gt_eq (fun c3 => ?_) (fun c3 => ?_) | refine gt_ne (fun c3 => ?_) (fun c3 => ?_)
  · exact two (fun q => q.elim (by omega) (fun q => by rw [c3] at q; cases q.2))
  · refine go_jp rfl ?_
    exact one (Or.inr ⟨c2, c3⟩)
end M
