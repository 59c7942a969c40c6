/-- all but what find writes stays -/
def mF5 (I I' : Nat → Int32) (C C' : Nat → Nat → Int32) : Prop := (∀ j, j ≠ 11 → j ≠ 16 → I' j = I j) ∧ ∀ j, j ≠ 12 → j ≠ 13 → j ≠ 14 → j ≠ 15 → j ≠ 17 → C' j = C j
theorem mF5_t {I I' I'' : Nat → Int32} {C C' C'' : Nat → Nat → Int32} (h1 : mF5 I I' C C') (h2 : mF5 I' I'' C' C'') : mF5 I I'' C C'' := ⟨fun j a b => (h2.1 j a b).trans (h1.1 j a b), fun j a b c d e => (h2.2 j a b c d e).trans (h1.2 j a b c d e)⟩
theorem mF5_fr {I : Nat → Int32} {C C' : Nat → Nat → Int32} (h : mFr C C') : mF5 I I C C' := ⟨fun _ _ _ => rfl, fun j _ _ c d _ => h j c d⟩
theorem mF5_fk {I I' : Nat → Int32} {C C' : Nat → Nat → Int32} (h : mFk I I' C C') : mF5 I I' C C' := ⟨fun j a _ => h.1 j a, fun j a b _ _ _ => h.2 j a b⟩
theorem mF5_r (I : Nat → Int32) (C : Nat → Nat → Int32) : mF5 I I C C := mF5_fr (mFr_r C)
/-- what find needs of the conditions of a path -/
def q_kok (B : Nat → Nat) (n : Nat) (K : List (Nat × Nat)) : Prop := (∀ ce ∈ K, q_cok B n ce) ∧ ∀ pre rest, K = pre ++ rest → ∀ l, pre.foldl (fun st ce => q_join2 (q_ord B B 17) st (q_bnd (q_ord B B 17) B ce)) none = some l → l.length ≤ 1000
section M
variable {E : mmE} {d : Nat} {h : mmH} {Q : Option Value → mmH → Prop} {o : Nat} {ad : Nat → Nat} {I : Nat → Int32} {C : Nat → Nat → Int32} {S : Nat → List qR} {R B : Nat → Nat} {n : Nat}
theorem mK_fr {K : List (Nat × Nat)} {C' : Nat → Nat → Int32} (hK : mK I C K) (hf : mFr C C') : mK I C' K := ⟨hK.1, hK.2.1, fun k hk => by rw [hf 12 (by decide) (by decide), hf 13 (by decide) (by decide)]; exact hK.2.2 k hk⟩
theorem getD_mem {α : Type} {l : List α} {k : Nat} {x : α} (hk : k < l.length) : l.getD k x ∈ l := by
  rw [List.getD_eq_getElem?_getD, List.getElem?_eq_getElem hk]
  exact List.getElem_mem hk
theorem drop_getD {α : Type} {l : List α} {k : Nat} {x : α} (hk : k < l.length) : l.drop k = l.getD k x :: l.drop (k + 1) := by
  rw [List.drop_eq_getElem_cons hk, List.getD_eq_getElem?_getD, List.getElem?_eq_getElem hk]
  rfl
theorem sp_mfone {K : List (Nat × Nat)} (hd : 49 ≤ d) (hD : mD o ad) (hC : ∀ j, j < 22100 → C 1 j = sb_b (R j)) (hR : ∀ j, R j < 256) (hw : mW R 0 n B) (hS : mS3 C S) (hK : mK I C K) (hcok : q_kok B n K)
    (hq : ∀ C' S', mS3 C' S' → (∀ l, q_fone (q_ord B B 17) B K = some l → S' 0 = l) → mFr C C' → Q (some (.int (q_t (q_fone (q_ord B B 17) B K).isSome))) (mH h o ad I C')) : mm_Go E d 147 (mm_blk 147 0) [.ref o, mm_un] [] (mH h o ad I C) Q := by
  have hC' : ∀ (C' : Nat → Nat → Int32), mFr C C' → ∀ j, j < 22100 → C' 1 j = sb_b (R j) := fun C' hf j hj => by rw [hf 1 (by decide) (by decide)]; exact hC j hj
  have k1 := hK.1
  unfold q_fone at hq
  have loop2 : q_fst (q_ord B B 17) B (fun ce => decide (ce.1 < 3)) K = none → ∀ (m k : Nat) (C1 : Nat → Nat → Int32) (S1 : Nat → List qR), m + k = K.length → mS3 C1 S1 → mFr C C1 → q_fst (q_ord B B 17) B (fun _ => true) K = q_fst (q_ord B B 17) B (fun _ => true) (K.drop k) → mm_Go E d 147 (mm_blk 147 4) [.ref o, .int (nI k)] [] (mH h o ad I C1) Q := by
    intro h0 m
    rw [h0] at hq
    have hq : ∀ C' S', mS3 C' S' → (∀ l, q_fst (q_ord B B 17) B (fun _ => true) K = some l → S' 0 = l) → mFr C C' → Q (some (.int (q_t (q_fst (q_ord B B 17) B (fun _ => true) K).isSome))) (mH h o ad I C') := hq
    induction m with
    | zero =>
      intro k C1 S1 hm hS1 hF1 hf
      rw [List.drop_of_length_le (by omega)] at hf
      have hf : q_fst (q_ord B B 17) B (fun _ => true) K = none := hf
      rw [hf] at hq
      repeat (first | refine gi_con ?_ | refine gi_bip (Nat.le_of_ble_eq_true rfl) ?_ | refine gi_sip (Nat.le_of_ble_eq_true rfl) ?_ | refine gi_ldc ?_ | refine gi_add ?_ | refine gi_inc rfl ?_ | refine gi_sub (by omega) ?_ | refine gi_mul ?_ | refine go_nx rfl ?_)
      refine gm_get (.int (nI K.length)) rfl (by rw [← hK.2.1]; rfl) ?_
      repeat (first | refine gi_con ?_ | refine gi_bip (Nat.le_of_ble_eq_true rfl) ?_ | refine gi_sip (Nat.le_of_ble_eq_true rfl) ?_ | refine gi_ldc ?_ | refine gi_add ?_ | refine gi_inc rfl ?_ | refine gi_sub (by omega) ?_ | refine gi_mul ?_ | refine go_nx rfl ?_)
      first | refine gb_lt (by omega) (by omega) (fun c => ?_) (fun c => ?_) | refine gb_ge (by omega) (by omega) (fun c => ?_) (fun c => ?_) | refine gb_gt (by omega) (by omega) (fun c => ?_) (fun c => ?_) | refine gb_le (by omega) (by omega) (fun c => ?_) (fun c => ?_) | refine gb_eq (by omega) (by omega) (fun c => ?_) (fun c => ?_) | refine gb_ne (by omega) (by omega) (fun c => ?_) (fun c => ?_)
      · repeat (first | refine gi_con ?_ | refine gi_bip (Nat.le_of_ble_eq_true rfl) ?_ | refine gi_sip (Nat.le_of_ble_eq_true rfl) ?_ | refine gi_ldc ?_ | refine gi_add ?_ | refine gi_inc rfl ?_ | refine gi_sub (by omega) ?_ | refine gi_mul ?_ | refine go_nx rfl ?_)
        refine go_rt rfl ?_
        exact hq C1 S1 hS1 (fun l hl => by cases hl) hF1
      · omega
    | succ m ih =>
      intro k C1 S1 hm hS1 hF1 hf
      have hkl : k < K.length := by omega
      rw [drop_getD (x := (0, 0)) hkl, q_fst_c] at hf
      repeat (first | refine gi_con ?_ | refine gi_bip (Nat.le_of_ble_eq_true rfl) ?_ | refine gi_sip (Nat.le_of_ble_eq_true rfl) ?_ | refine gi_ldc ?_ | refine gi_add ?_ | refine gi_inc rfl ?_ | refine gi_sub (by omega) ?_ | refine gi_mul ?_ | refine go_nx rfl ?_)
      refine gm_get (.int (nI K.length)) rfl (by rw [← hK.2.1]; rfl) ?_
      repeat (first | refine gi_con ?_ | refine gi_bip (Nat.le_of_ble_eq_true rfl) ?_ | refine gi_sip (Nat.le_of_ble_eq_true rfl) ?_ | refine gi_ldc ?_ | refine gi_add ?_ | refine gi_inc rfl ?_ | refine gi_sub (by omega) ?_ | refine gi_mul ?_ | refine go_nx rfl ?_)
      first | refine gb_lt (by omega) (by omega) (fun c => ?_) (fun c => ?_) | refine gb_ge (by omega) (by omega) (fun c => ?_) (fun c => ?_) | refine gb_gt (by omega) (by omega) (fun c => ?_) (fun c => ?_) | refine gb_le (by omega) (by omega) (fun c => ?_) (fun c => ?_) | refine gb_eq (by omega) (by omega) (fun c => ?_) (fun c => ?_) | refine gb_ne (by omega) (by omega) (fun c => ?_) (fun c => ?_)
      · omega
      repeat (first | refine gi_con ?_ | refine gi_bip (Nat.le_of_ble_eq_true rfl) ?_ | refine gi_sip (Nat.le_of_ble_eq_true rfl) ?_ | refine gi_ldc ?_ | refine gi_add ?_ | refine gi_inc rfl ?_ | refine gi_sub (by omega) ?_ | refine gi_mul ?_ | refine go_nx rfl ?_)
      refine go_step ?_
      refine g_callV (by decide) (by decide) (Nat.le_of_ble_eq_true rfl) (Nat.le_of_ble_eq_true rfl) mH_rcv (by omega) (Nat.le_of_ble_eq_true rfl) rfl ?_
      refine sp_mbounds (by omega) hD (hC' _ hF1) hR hw hS1 (mK_fr hK hF1) hkl (hcok.1 _ (getD_mem hkl)) (fun C2 S2 hS2 hs2 hF2 => ?_)
      repeat (first | refine gi_con ?_ | refine gi_bip (Nat.le_of_ble_eq_true rfl) ?_ | refine gi_sip (Nat.le_of_ble_eq_true rfl) ?_ | refine gi_ldc ?_ | refine gi_add ?_ | refine gi_inc rfl ?_ | refine gi_sub (by omega) ?_ | refine gi_mul ?_ | refine go_nx rfl ?_)
      first | refine gt_eq (fun c2 => ?_) (fun c2 => ?_) | refine gt_ne (fun c2 => ?_) (fun c2 => ?_)
      · rw [c2, if_neg (fun q => by cases q.2)] at hf
        repeat (first | refine gi_con ?_ | refine gi_bip (Nat.le_of_ble_eq_true rfl) ?_ | refine gi_sip (Nat.le_of_ble_eq_true rfl) ?_ | refine gi_ldc ?_ | refine gi_add ?_ | refine gi_inc rfl ?_ | refine gi_sub (by omega) ?_ | refine gi_mul ?_ | refine go_nx rfl ?_)
        refine go_jp rfl ?_
        exact ih (k + 1) C2 S2 (by omega) hS2 (mFr_t hF1 hF2) hf
      · rw [if_pos ⟨rfl, c2⟩] at hf
        have hf : q_fst (q_ord B B 17) B (fun _ => true) K = q_bnd (q_ord B B 17) B (K.getD k (0, 0)) := hf
        rw [hf, c2] at hq
        repeat (first | refine gi_con ?_ | refine gi_bip (Nat.le_of_ble_eq_true rfl) ?_ | refine gi_sip (Nat.le_of_ble_eq_true rfl) ?_ | refine gi_ldc ?_ | refine gi_add ?_ | refine gi_inc rfl ?_ | refine gi_sub (by omega) ?_ | refine gi_mul ?_ | refine go_nx rfl ?_)
        refine go_rt rfl ?_
        exact hq C2 S2 hS2 hs2 (mFr_t hF1 hF2)
  have loop1 : ∀ (m k : Nat) (C1 : Nat → Nat → Int32) (S1 : Nat → List qR), m + k = K.length → mS3 C1 S1 → mFr C C1 → q_fst (q_ord B B 17) B (fun ce => decide (ce.1 < 3)) K = q_fst (q_ord B B 17) B (fun ce => decide (ce.1 < 3)) (K.drop k) → mm_Go E d 147 (mm_blk 147 1) [.ref o, .int (nI k)] [] (mH h o ad I C1) Q := by
    intro m
    induction m with
    | zero =>
      intro k C1 S1 hm hS1 hF1 hf
      rw [List.drop_of_length_le (by omega)] at hf
      have hf : q_fst (q_ord B B 17) B (fun ce => decide (ce.1 < 3)) K = none := hf
      repeat (first | refine gi_con ?_ | refine gi_bip (Nat.le_of_ble_eq_true rfl) ?_ | refine gi_sip (Nat.le_of_ble_eq_true rfl) ?_ | refine gi_ldc ?_ | refine gi_add ?_ | refine gi_inc rfl ?_ | refine gi_sub (by omega) ?_ | refine gi_mul ?_ | refine go_nx rfl ?_)
      refine gm_get (.int (nI K.length)) rfl (by rw [← hK.2.1]; rfl) ?_
      repeat (first | refine gi_con ?_ | refine gi_bip (Nat.le_of_ble_eq_true rfl) ?_ | refine gi_sip (Nat.le_of_ble_eq_true rfl) ?_ | refine gi_ldc ?_ | refine gi_add ?_ | refine gi_inc rfl ?_ | refine gi_sub (by omega) ?_ | refine gi_mul ?_ | refine go_nx rfl ?_)
      first | refine gb_lt (by omega) (by omega) (fun c => ?_) (fun c => ?_) | refine gb_ge (by omega) (by omega) (fun c => ?_) (fun c => ?_) | refine gb_gt (by omega) (by omega) (fun c => ?_) (fun c => ?_) | refine gb_le (by omega) (by omega) (fun c => ?_) (fun c => ?_) | refine gb_eq (by omega) (by omega) (fun c => ?_) (fun c => ?_) | refine gb_ne (by omega) (by omega) (fun c => ?_) (fun c => ?_)
      · repeat (first | refine gi_con ?_ | refine gi_bip (Nat.le_of_ble_eq_true rfl) ?_ | refine gi_sip (Nat.le_of_ble_eq_true rfl) ?_ | refine gi_ldc ?_ | refine gi_add ?_ | refine gi_inc rfl ?_ | refine gi_sub (by omega) ?_ | refine gi_mul ?_ | refine go_nx rfl ?_)
        refine go_jp rfl ?_
        exact loop2 hf K.length 0 C1 S1 (by omega) hS1 hF1 (by rw [List.drop_zero])
      · omega
    | succ m ih =>
      intro k C1 S1 hm hS1 hF1 hf
      have hkl : k < K.length := by omega
      have hkk := (hcok.1 _ (getD_mem (x := (0, 0)) hkl)).2.2.1
      rw [drop_getD (x := (0, 0)) hkl, q_fst_c] at hf
      repeat (first | refine gi_con ?_ | refine gi_bip (Nat.le_of_ble_eq_true rfl) ?_ | refine gi_sip (Nat.le_of_ble_eq_true rfl) ?_ | refine gi_ldc ?_ | refine gi_add ?_ | refine gi_inc rfl ?_ | refine gi_sub (by omega) ?_ | refine gi_mul ?_ | refine go_nx rfl ?_)
      refine gm_get (.int (nI K.length)) rfl (by rw [← hK.2.1]; rfl) ?_
      repeat (first | refine gi_con ?_ | refine gi_bip (Nat.le_of_ble_eq_true rfl) ?_ | refine gi_sip (Nat.le_of_ble_eq_true rfl) ?_ | refine gi_ldc ?_ | refine gi_add ?_ | refine gi_inc rfl ?_ | refine gi_sub (by omega) ?_ | refine gi_mul ?_ | refine go_nx rfl ?_)
      first | refine gb_lt (by omega) (by omega) (fun c => ?_) (fun c => ?_) | refine gb_ge (by omega) (by omega) (fun c => ?_) (fun c => ?_) | refine gb_gt (by omega) (by omega) (fun c => ?_) (fun c => ?_) | refine gb_le (by omega) (by omega) (fun c => ?_) (fun c => ?_) | refine gb_eq (by omega) (by omega) (fun c => ?_) (fun c => ?_) | refine gb_ne (by omega) (by omega) (fun c => ?_) (fun c => ?_)
      · omega
      repeat (first | refine gi_con ?_ | refine gi_bip (Nat.le_of_ble_eq_true rfl) ?_ | refine gi_sip (Nat.le_of_ble_eq_true rfl) ?_ | refine gi_ldc ?_ | refine gi_add ?_ | refine gi_inc rfl ?_ | refine gi_sub (by omega) ?_ | refine gi_mul ?_ | refine go_nx rfl ?_)
      refine gm_get (.ref (ad 12)) rfl rfl ?_
      repeat (first | refine gi_con ?_ | refine gi_bip (Nat.le_of_ble_eq_true rfl) ?_ | refine gi_sip (Nat.le_of_ble_eq_true rfl) ?_ | refine gi_ldc ?_ | refine gi_add ?_ | refine gi_inc rfl ?_ | refine gi_sub (by omega) ?_ | refine gi_mul ?_ | refine go_nx rfl ?_)
      refine gm_ild hD (by decide) rfl (show k < 120 by omega) (by decide) ?_
      rw [((mK_fr hK hF1).2.2 k hkl).1]
      repeat (first | refine gi_con ?_ | refine gi_bip (Nat.le_of_ble_eq_true rfl) ?_ | refine gi_sip (Nat.le_of_ble_eq_true rfl) ?_ | refine gi_ldc ?_ | refine gi_add ?_ | refine gi_inc rfl ?_ | refine gi_sub (by omega) ?_ | refine gi_mul ?_ | refine go_nx rfl ?_)
      first | refine gb_lt (by omega) (by omega) (fun c2 => ?_) (fun c2 => ?_) | refine gb_ge (by omega) (by omega) (fun c2 => ?_) (fun c2 => ?_) | refine gb_gt (by omega) (by omega) (fun c2 => ?_) (fun c2 => ?_) | refine gb_le (by omega) (by omega) (fun c2 => ?_) (fun c2 => ?_) | refine gb_eq (by omega) (by omega) (fun c2 => ?_) (fun c2 => ?_) | refine gb_ne (by omega) (by omega) (fun c2 => ?_) (fun c2 => ?_)
      · rw [if_neg (fun q => by have := of_decide_eq_true q.1; omega)] at hf
        repeat (first | refine gi_con ?_ | refine gi_bip (Nat.le_of_ble_eq_true rfl) ?_ | refine gi_sip (Nat.le_of_ble_eq_true rfl) ?_ | refine gi_ldc ?_ | refine gi_add ?_ | refine gi_inc rfl ?_ | refine gi_sub (by omega) ?_ | refine gi_mul ?_ | refine go_nx rfl ?_)
        refine go_jp rfl ?_
        exact ih (k + 1) C1 S1 (by omega) hS1 hF1 hf
      repeat (first | refine gi_con ?_ | refine gi_bip (Nat.le_of_ble_eq_true rfl) ?_ | refine gi_sip (Nat.le_of_ble_eq_true rfl) ?_ | refine gi_ldc ?_ | refine gi_add ?_ | refine gi_inc rfl ?_ | refine gi_sub (by omega) ?_ | refine gi_mul ?_ | refine go_nx rfl ?_)
      refine go_step ?_
      refine g_callV (by decide) (by decide) (Nat.le_of_ble_eq_true rfl) (Nat.le_of_ble_eq_true rfl) mH_rcv (by omega) (Nat.le_of_ble_eq_true rfl) rfl ?_
      refine sp_mbounds (by omega) hD (hC' _ hF1) hR hw hS1 (mK_fr hK hF1) hkl (hcok.1 _ (getD_mem hkl)) (fun C2 S2 hS2 hs2 hF2 => ?_)
      repeat (first | refine gi_con ?_ | refine gi_bip (Nat.le_of_ble_eq_true rfl) ?_ | refine gi_sip (Nat.le_of_ble_eq_true rfl) ?_ | refine gi_ldc ?_ | refine gi_add ?_ | refine gi_inc rfl ?_ | refine gi_sub (by omega) ?_ | refine gi_mul ?_ | refine go_nx rfl ?_)
      first | refine gt_eq (fun c3 => ?_) (fun c3 => ?_) | refine gt_ne (fun c3 => ?_) (fun c3 => ?_)
      · rw [c3, if_neg (fun q => by cases q.2)] at hf
        repeat (first | refine gi_con ?_ | refine gi_bip (Nat.le_of_ble_eq_true rfl) ?_ | refine gi_sip (Nat.le_of_ble_eq_true rfl) ?_ | refine gi_ldc ?_ | refine gi_add ?_ | refine gi_inc rfl ?_ | refine gi_sub (by omega) ?_ | refine gi_mul ?_ | refine go_nx rfl ?_)
        refine go_jp rfl ?_
        exact ih (k + 1) C2 S2 (by omega) hS2 (mFr_t hF1 hF2) hf
      · rw [if_pos ⟨decide_eq_true c2, c3⟩] at hf
        cases hb : q_bnd (q_ord B B 17) B (K.getD k (0, 0)) with
        | none => rw [hb] at c3; cases c3
        | some l =>
          rw [hb] at hf hs2
          rw [hf] at hq
          repeat (first | refine gi_con ?_ | refine gi_bip (Nat.le_of_ble_eq_true rfl) ?_ | refine gi_sip (Nat.le_of_ble_eq_true rfl) ?_ | refine gi_ldc ?_ | refine gi_add ?_ | refine gi_inc rfl ?_ | refine gi_sub (by omega) ?_ | refine gi_mul ?_ | refine go_nx rfl ?_)
          refine go_rt rfl ?_
          exact hq C2 S2 hS2 hs2 (mFr_t hF1 hF2)
  repeat (first | refine gi_con ?_ | refine gi_bip (Nat.le_of_ble_eq_true rfl) ?_ | refine gi_sip (Nat.le_of_ble_eq_true rfl) ?_ | refine gi_ldc ?_ | refine gi_add ?_ | refine gi_inc rfl ?_ | refine gi_sub (by omega) ?_ | refine gi_mul ?_ | refine go_nx rfl ?_)
  refine go_jp rfl ?_
  exact loop1 K.length 0 C S (by omega) hS (mFr_r C) (by rw [List.drop_zero])
theorem sp_mfall {K : List (Nat × Nat)} (hd : 49 ≤ d) (hD : mD o ad) (hC : ∀ j, j < 22100 → C 1 j = sb_b (R j)) (hR : ∀ j, R j < 256) (hw : mW R 0 n B) (hS : mS3 C S) (hK : mK I C K) (hcok : q_kok B n K)
    (hq : ∀ I' C' S', mS3 C' S' → (∀ l, q_fall (q_ord B B 17) B K = some l → S' 0 = l) → mF5 I I' C C' → Q (some (.int (q_t (q_fall (q_ord B B 17) B K).isSome))) (mH h o ad I' C')) : mm_Go E d 162 (mm_blk 162 0) [.ref o, mm_un, mm_un] [] (mH h o ad I C) Q := by
  have hC' : ∀ {I1 I2 : Nat → Int32} {C' : Nat → Nat → Int32}, mF5 I1 I2 C C' → ∀ j, j < 22100 → C' 1 j = sb_b (R j) := fun hf j hj => by rw [hf.2 1 (by decide) (by decide) (by decide) (by decide) (by decide)]; exact hC j hj
  have k1 := hK.1
  have loop : ∀ (m k : Nat) (I1 : Nat → Int32) (C1 : Nat → Nat → Int32) (S1 : Nat → List qR) (st : Option (List qR)), m + k = K.length → mS3 C1 S1 → mK I1 C1 K → mF5 I I1 C C1 → (K.take k).foldl (fun st ce => q_join2 (q_ord B B 17) st (q_bnd (q_ord B B 17) B ce)) none = st → (∀ l, st = some l → S1 0 = l) → (∀ l, st = some l → ∀ r ∈ l, q_okR B n r) → mm_Go E d 162 (mm_blk 162 1) [.ref o, .int (q_t st.isSome), .int (nI k)] [] (mH h o ad I1 C1) Q := by
    intro m
    induction m with
    | zero =>
      intro k I1 C1 S1 st hm hS1 hK1 hF1 hst hs0 hsok
      rw [List.take_of_length_le (by omega)] at hst
      have hst : q_fall (q_ord B B 17) B K = st := hst
      rw [hst] at hq
      repeat (first | refine gi_con ?_ | refine gi_bip (Nat.le_of_ble_eq_true rfl) ?_ | refine gi_sip (Nat.le_of_ble_eq_true rfl) ?_ | refine gi_ldc ?_ | refine gi_add ?_ | refine gi_inc rfl ?_ | refine gi_sub (by omega) ?_ | refine gi_mul ?_ | refine go_nx rfl ?_)
      refine gm_get (.int (nI K.length)) rfl (by rw [← hK1.2.1]; rfl) ?_
      repeat (first | refine gi_con ?_ | refine gi_bip (Nat.le_of_ble_eq_true rfl) ?_ | refine gi_sip (Nat.le_of_ble_eq_true rfl) ?_ | refine gi_ldc ?_ | refine gi_add ?_ | refine gi_inc rfl ?_ | refine gi_sub (by omega) ?_ | refine gi_mul ?_ | refine go_nx rfl ?_)
      first | refine gb_lt (by omega) (by omega) (fun c => ?_) (fun c => ?_) | refine gb_ge (by omega) (by omega) (fun c => ?_) (fun c => ?_) | refine gb_gt (by omega) (by omega) (fun c => ?_) (fun c => ?_) | refine gb_le (by omega) (by omega) (fun c => ?_) (fun c => ?_) | refine gb_eq (by omega) (by omega) (fun c => ?_) (fun c => ?_) | refine gb_ne (by omega) (by omega) (fun c => ?_) (fun c => ?_)
      · repeat (first | refine gi_con ?_ | refine gi_bip (Nat.le_of_ble_eq_true rfl) ?_ | refine gi_sip (Nat.le_of_ble_eq_true rfl) ?_ | refine gi_ldc ?_ | refine gi_add ?_ | refine gi_inc rfl ?_ | refine gi_sub (by omega) ?_ | refine gi_mul ?_ | refine go_nx rfl ?_)
        exact go_rtB rfl (hq I1 C1 S1 hS1 hs0 hF1)
      · omega
    | succ m ih =>
      intro k I1 C1 S1 st hm hS1 hK1 hF1 hst hs0 hsok
      have hkl : k < K.length := by omega
      have htake : K.take (k + 1) = K.take k ++ [K.getD k (0, 0)] := by
        rw [List.take_succ, List.getD_eq_getElem?_getD, List.getElem?_eq_getElem hkl]
        rfl
      have hcap := hcok.2 (K.take (k + 1)) (K.drop (k + 1)) (List.take_append_drop _ _).symm
      rw [htake, List.foldl_append, hst] at hcap
      have hcap : ∀ l, q_join2 (q_ord B B 17) st (q_bnd (q_ord B B 17) B (K.getD k (0, 0))) = some l → l.length ≤ 1000 := hcap
      have hce := hcok.1 _ (getD_mem (x := (0, 0)) hkl)
      have five : ∀ (I2 : Nat → Int32) (C2 : Nat → Nat → Int32) (S2 : Nat → List qR) (st2 : Option (List qR)), q_join2 (q_ord B B 17) st (q_bnd (q_ord B B 17) B (K.getD k (0, 0))) = st2 → mS3 C2 S2 → mK I2 C2 K → mF5 I I2 C C2 → (∀ l, st2 = some l → S2 0 = l) → (∀ l, st2 = some l → ∀ r ∈ l, q_okR B n r) → mm_Go E d 162 (mm_blk 162 5) [.ref o, .int (q_t st2.isSome), .int (nI k)] [] (mH h o ad I2 C2) Q := by
        intro I2 C2 S2 st2 hj hS2 hK2 hF2 h1 h2
        repeat (first | refine gi_con ?_ | refine gi_bip (Nat.le_of_ble_eq_true rfl) ?_ | refine gi_sip (Nat.le_of_ble_eq_true rfl) ?_ | refine gi_ldc ?_ | refine gi_add ?_ | refine gi_inc rfl ?_ | refine gi_sub (by omega) ?_ | refine gi_mul ?_ | refine go_nx rfl ?_)
        refine go_jp rfl ?_
        exact ih (k + 1) I2 C2 S2 st2 (by omega) hS2 hK2 hF2 (by rw [htake, List.foldl_append, hst]; exact hj) h1 h2
      have two : ∀ (I2 : Nat → Int32) (C2 : Nat → Nat → Int32) (S2 : Nat → List qR), mS3 C2 S2 → mK I2 C2 K → mF5 I I2 C C2 → (∀ l, st = some l → mWt I2 C2 l) → mm_Go E d 162 (mm_blk 162 2) [.ref o, .int (q_t st.isSome), .int (nI k)] [] (mH h o ad I2 C2) Q := by
        intro I2 C2 S2 hS2 hK2 hF2 hW2
        repeat (first | refine gi_con ?_ | refine gi_bip (Nat.le_of_ble_eq_true rfl) ?_ | refine gi_sip (Nat.le_of_ble_eq_true rfl) ?_ | refine gi_ldc ?_ | refine gi_add ?_ | refine gi_inc rfl ?_ | refine gi_sub (by omega) ?_ | refine gi_mul ?_ | refine go_nx rfl ?_)
        refine go_step ?_
        refine g_callV (by decide) (by decide) (Nat.le_of_ble_eq_true rfl) (Nat.le_of_ble_eq_true rfl) mH_rcv (by omega) (Nat.le_of_ble_eq_true rfl) rfl ?_
        refine sp_mbounds (by omega) hD (hC' hF2) hR hw hS2 hK2 hkl hce (fun C3 S3 hS3 hs3 hF3 => ?_)
        have hF23 := mF5_t hF2 (mF5_fr (I := I2) hF3)
        have hK3 := mK_fr hK2 hF3
        cases hb : q_bnd (q_ord B B 17) B (K.getD k (0, 0)) with
        | none =>
          rw [hb] at five
          repeat (first | refine gi_con ?_ | refine gi_bip (Nat.le_of_ble_eq_true rfl) ?_ | refine gi_sip (Nat.le_of_ble_eq_true rfl) ?_ | refine gi_ldc ?_ | refine gi_add ?_ | refine gi_inc rfl ?_ | refine gi_sub (by omega) ?_ | refine gi_mul ?_ | refine go_nx rfl ?_)
          refine gt_ne (fun c2 => by cases c2) (fun c2 => ?_)
          repeat (first | refine gi_con ?_ | refine gi_bip (Nat.le_of_ble_eq_true rfl) ?_ | refine gi_sip (Nat.le_of_ble_eq_true rfl) ?_ | refine gi_ldc ?_ | refine gi_add ?_ | refine gi_inc rfl ?_ | refine gi_sub (by omega) ?_ | refine gi_mul ?_ | refine go_nx rfl ?_)
          cases st with
          | none =>
            refine gt_eq (fun c3 => ?_) (fun c3 => by cases c3)
            exact five I2 C3 S3 none rfl hS3 hK3 hF23 (fun l hl => by cases hl) (fun l hl => by cases hl)
          | some cur =>
            refine gt_eq (fun c3 => by cases c3) (fun c3 => ?_)
            repeat (first | refine gi_con ?_ | refine gi_bip (Nat.le_of_ble_eq_true rfl) ?_ | refine gi_sip (Nat.le_of_ble_eq_true rfl) ?_ | refine gi_ldc ?_ | refine gi_add ?_ | refine gi_inc rfl ?_ | refine gi_sub (by omega) ?_ | refine gi_mul ?_ | refine go_nx rfl ?_)
            refine go_step ?_
            refine g_callV (by decide) (by decide) (Nat.le_of_ble_eq_true rfl) (Nat.le_of_ble_eq_true rfl) mH_rcv (by omega) (Nat.le_of_ble_eq_true rfl) rfl ?_
            refine sp_mload hD hS3 (mWt_fr (hW2 cur rfl) hF3) (fun C4 hS4 hF4 => ?_)
            repeat (first | refine gi_con ?_ | refine gi_bip (Nat.le_of_ble_eq_true rfl) ?_ | refine gi_sip (Nat.le_of_ble_eq_true rfl) ?_ | refine gi_ldc ?_ | refine gi_add ?_ | refine gi_inc rfl ?_ | refine gi_sub (by omega) ?_ | refine gi_mul ?_ | refine go_nx rfl ?_)
            refine go_jp rfl ?_
            exact five I2 C4 _ (some cur) rfl hS4 (mK_fr hK3 hF4) (mF5_t hF23 (mF5_fr (I := I2) hF4)) (fun l hl => by cases hl; exact uf_at _ _ _) hsok
        | some rows =>
          have hrok := q_bnd_ok hce hb
          rw [hb] at five hs3 hcap
          have hs3 := hs3 rows rfl
          have four : ∀ (b : Bool) (I4 : Nat → Int32) (C4 : Nat → Nat → Int32) (S4 : Nat → List qR) (l4 : List qR), q_join2 (q_ord B B 17) st (some rows) = some l4 → mS3 C4 S4 → mK I4 C4 K → mF5 I I4 C C4 → S4 0 = l4 → (∀ r ∈ l4, q_okR B n r) → mm_Go E d 162 (mm_blk 162 4) [.ref o, .int (q_t b), .int (nI k)] [] (mH h o ad I4 C4) Q := by
            intro b I4 C4 S4 l4 hj hS4 hK4 hF4 h1 h2
            repeat (first | refine gi_con ?_ | refine gi_bip (Nat.le_of_ble_eq_true rfl) ?_ | refine gi_sip (Nat.le_of_ble_eq_true rfl) ?_ | refine gi_ldc ?_ | refine gi_add ?_ | refine gi_inc rfl ?_ | refine gi_sub (by omega) ?_ | refine gi_mul ?_ | refine go_nx rfl ?_)
            refine go_jp rfl ?_
            exact five I4 C4 S4 (some l4) hj hS4 hK4 hF4 (fun l hl => by cases hl; exact h1) (fun l hl => by cases hl; exact h2)
          repeat (first | refine gi_con ?_ | refine gi_bip (Nat.le_of_ble_eq_true rfl) ?_ | refine gi_sip (Nat.le_of_ble_eq_true rfl) ?_ | refine gi_ldc ?_ | refine gi_add ?_ | refine gi_inc rfl ?_ | refine gi_sub (by omega) ?_ | refine gi_mul ?_ | refine go_nx rfl ?_)
          refine gt_ne (fun c2 => ?_) (fun c2 => by cases c2)
          repeat (first | refine gi_con ?_ | refine gi_bip (Nat.le_of_ble_eq_true rfl) ?_ | refine gi_sip (Nat.le_of_ble_eq_true rfl) ?_ | refine gi_ldc ?_ | refine gi_add ?_ | refine gi_inc rfl ?_ | refine gi_sub (by omega) ?_ | refine gi_mul ?_ | refine go_nx rfl ?_)
          cases st with
          | none =>
            refine gt_eq (fun c3 => ?_) (fun c3 => by cases c3)
            exact four false I2 C3 S3 rows rfl hS3 hK3 hF23 hs3 hrok
          | some cur =>
            have hcur := hsok cur rfl
            refine gt_eq (fun c3 => by cases c3) (fun c3 => ?_)
            repeat (first | refine gi_con ?_ | refine gi_bip (Nat.le_of_ble_eq_true rfl) ?_ | refine gi_sip (Nat.le_of_ble_eq_true rfl) ?_ | refine gi_ldc ?_ | refine gi_add ?_ | refine gi_inc rfl ?_ | refine gi_sub (by omega) ?_ | refine gi_mul ?_ | refine go_nx rfl ?_)
            refine go_step ?_
            refine g_callV (by decide) (by decide) (Nat.le_of_ble_eq_true rfl) (Nat.le_of_ble_eq_true rfl) mH_rcv (by omega) (Nat.le_of_ble_eq_true rfl) rfl ?_
            refine sp_mcopy (s := 0) (t := 1) hD hS3 (by decide) (by decide) (by decide) (fun C4 hS4 hF4 => ?_)
            rw [hs3] at hS4
            repeat (first | refine gi_con ?_ | refine gi_bip (Nat.le_of_ble_eq_true rfl) ?_ | refine gi_sip (Nat.le_of_ble_eq_true rfl) ?_ | refine gi_ldc ?_ | refine gi_add ?_ | refine gi_inc rfl ?_ | refine gi_sub (by omega) ?_ | refine gi_mul ?_ | refine go_nx rfl ?_)
            refine go_step ?_
            refine g_callV (by decide) (by decide) (Nat.le_of_ble_eq_true rfl) (Nat.le_of_ble_eq_true rfl) mH_rcv (by omega) (Nat.le_of_ble_eq_true rfl) rfl ?_
            refine sp_mload hD hS4 (mWt_fr (mWt_fr (hW2 cur rfl) hF3) hF4) (fun C5 hS5 hF5 => ?_)
            have hF25 := mF5_t hF23 (mF5_fr (I := I2) (mFr_t hF4 hF5))
            have e0 : (uf (uf S3 1 rows) 0 cur) 0 = cur := uf_at _ _ _
            have e1 : (uf (uf S3 1 rows) 0 cur) 1 = rows := by rw [uf_ne (by decide), uf_at]
            repeat (first | refine gi_con ?_ | refine gi_bip (Nat.le_of_ble_eq_true rfl) ?_ | refine gi_sip (Nat.le_of_ble_eq_true rfl) ?_ | refine gi_ldc ?_ | refine gi_add ?_ | refine gi_inc rfl ?_ | refine gi_sub (by omega) ?_ | refine gi_mul ?_ | refine go_nx rfl ?_)
            refine go_step ?_
            refine g_callV (by decide) (by decide) (Nat.le_of_ble_eq_true rfl) (Nat.le_of_ble_eq_true rfl) mH_rcv (by omega) (Nat.le_of_ble_eq_true rfl) rfl ?_
            refine sp_mmeet (a := 0) (t := 1) (c := 2) (by omega) hD (hC' hF25) hR hw hS5 (by decide) (by decide) (by decide) (by decide) (by decide) (by rw [e0]; exact hcur) (by rw [e1]; exact hrok) (by rw [e0, e1]; exact hcap _ rfl) (fun C6 hS6 hF6 => ?_)
            rw [e0, e1] at hS6
            repeat (first | refine gi_con ?_ | refine gi_bip (Nat.le_of_ble_eq_true rfl) ?_ | refine gi_sip (Nat.le_of_ble_eq_true rfl) ?_ | refine gi_ldc ?_ | refine gi_add ?_ | refine gi_inc rfl ?_ | refine gi_sub (by omega) ?_ | refine gi_mul ?_ | refine go_nx rfl ?_)
            refine go_jp rfl ?_
            exact four true I2 C6 _ _ rfl hS6 (mK_fr (mK_fr (mK_fr hK3 hF4) hF5) hF6) (mF5_t hF25 (mF5_fr (I := I2) hF6)) (uf_at _ _ _) (q_meet_ok hcur hrok)
      repeat (first | refine gi_con ?_ | refine gi_bip (Nat.le_of_ble_eq_true rfl) ?_ | refine gi_sip (Nat.le_of_ble_eq_true rfl) ?_ | refine gi_ldc ?_ | refine gi_add ?_ | refine gi_inc rfl ?_ | refine gi_sub (by omega) ?_ | refine gi_mul ?_ | refine go_nx rfl ?_)
      refine gm_get (.int (nI K.length)) rfl (by rw [← hK1.2.1]; rfl) ?_
      repeat (first | refine gi_con ?_ | refine gi_bip (Nat.le_of_ble_eq_true rfl) ?_ | refine gi_sip (Nat.le_of_ble_eq_true rfl) ?_ | refine gi_ldc ?_ | refine gi_add ?_ | refine gi_inc rfl ?_ | refine gi_sub (by omega) ?_ | refine gi_mul ?_ | refine go_nx rfl ?_)
      first | refine gb_lt (by omega) (by omega) (fun c => ?_) (fun c => ?_) | refine gb_ge (by omega) (by omega) (fun c => ?_) (fun c => ?_) | refine gb_gt (by omega) (by omega) (fun c => ?_) (fun c => ?_) | refine gb_le (by omega) (by omega) (fun c => ?_) (fun c => ?_) | refine gb_eq (by omega) (by omega) (fun c => ?_) (fun c => ?_) | refine gb_ne (by omega) (by omega) (fun c => ?_) (fun c => ?_)
      · omega
      repeat (first | refine gi_con ?_ | refine gi_bip (Nat.le_of_ble_eq_true rfl) ?_ | refine gi_sip (Nat.le_of_ble_eq_true rfl) ?_ | refine gi_ldc ?_ | refine gi_add ?_ | refine gi_inc rfl ?_ | refine gi_sub (by omega) ?_ | refine gi_mul ?_ | refine go_nx rfl ?_)
      cases st with
      | none =>
        refine gt_eq (fun c2 => ?_) (fun c2 => by cases c2)
        exact two I1 C1 S1 hS1 hK1 hF1 (fun l hl => by cases hl)
      | some cur =>
        refine gt_eq (fun c2 => by cases c2) (fun c2 => ?_)
        repeat (first | refine gi_con ?_ | refine gi_bip (Nat.le_of_ble_eq_true rfl) ?_ | refine gi_sip (Nat.le_of_ble_eq_true rfl) ?_ | refine gi_ldc ?_ | refine gi_add ?_ | refine gi_inc rfl ?_ | refine gi_sub (by omega) ?_ | refine gi_mul ?_ | refine go_nx rfl ?_)
        refine go_step ?_
        refine g_callV (by decide) (by decide) (Nat.le_of_ble_eq_true rfl) (Nat.le_of_ble_eq_true rfl) mH_rcv (by omega) (Nat.le_of_ble_eq_true rfl) rfl ?_
        refine sp_msave hD hS1 (fun I2 C2 hW2 hI2 hC2 => ?_)
        rw [hs0 cur rfl] at hW2
        repeat (first | refine gi_con ?_ | refine gi_bip (Nat.le_of_ble_eq_true rfl) ?_ | refine gi_sip (Nat.le_of_ble_eq_true rfl) ?_ | refine gi_ldc ?_ | refine gi_add ?_ | refine gi_inc rfl ?_ | refine gi_sub (by omega) ?_ | refine gi_mul ?_ | refine go_nx rfl ?_)
        refine go_jp rfl ?_
        refine two I2 C2 S1 (fun r hr => ?_) ⟨hK1.1, by rw [hI2 11 (by decide)]; exact hK1.2.1, fun k hk => by rw [hC2 12 (by decide), hC2 13 (by decide)]; exact hK1.2.2 k hk⟩ (mF5_t hF1 ⟨fun j _ b => hI2 j b, fun j _ _ _ _ e => hC2 j e⟩) (fun l hl => by cases hl; exact hW2)
        rw [hC2 14 (by decide), hC2 15 (by decide)]
        exact hS1 r hr
  repeat (first | refine gi_con ?_ | refine gi_bip (Nat.le_of_ble_eq_true rfl) ?_ | refine gi_sip (Nat.le_of_ble_eq_true rfl) ?_ | refine gi_ldc ?_ | refine gi_add ?_ | refine gi_inc rfl ?_ | refine gi_sub (by omega) ?_ | refine gi_mul ?_ | refine go_nx rfl ?_)
  refine go_jp rfl ?_
  exact loop K.length 0 I C S none (by omega) hS hK (mF5_r I C) rfl (fun l hl => by cases hl) (fun l hl => by cases hl)
end M
