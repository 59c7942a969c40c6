/-! BOUNDS: rows of two ends; an end: class, where (0 begins, 1 at, 2 ends), in, place -/
abbrev qE : Type := Nat × Nat × Nat × Nat
abbrev qR : Type := qE × qE
def q_r0 : qR := ((0, 0, 0, 0), (0, 0, 0, 0))
def q_ef (x : qE) (f : Nat) : Int32 := if f = 0 then nI x.1 else if f = 1 then nI x.2.1 else if f = 2 then nI x.2.2.1 else if x.2.1 = 1 then nI x.2.2.2 else -1
def q_rf (r : qR) (f : Nat) : Int32 := if f < 4 then q_ef r.1 f else q_ef r.2 (f - 4)
/-- the three sets of the reference -/
def mS3 (C : Nat → Nat → Int32) (S : Nat → List qR) : Prop := ∀ s, s < 3 → (S s).length ≤ 1000 ∧ C 14 s = nI (S s).length ∧ ∀ k, k < (S s).length → ∀ f, f < 8 → C 15 (8000 * s + 8 * k + f) = q_rf ((S s).getD k q_r0) f
def mFr (C C' : Nat → Nat → Int32) : Prop := ∀ j, j ≠ 14 → j ≠ 15 → C' j = C j
theorem uf_uf {α : Type} (f : Nat → α) (k : Nat) (x y : α) : uf (uf f k x) k y = uf f k y := by
  funext j
  unfold uf
  by_cases h : j = k
  · rw [if_pos h, if_pos h]
  · rw [if_neg h, if_neg h, if_neg h]
theorem mFr_r (C : Nat → Nat → Int32) : mFr C C := fun _ _ _ => rfl
theorem mFr_t {C C' C'' : Nat → Nat → Int32} (h1 : mFr C C') (h2 : mFr C' C'') : mFr C C'' := fun j a b => (h2 j a b).trans (h1 j a b)
theorem mFr_15 {C C' : Nat → Nat → Int32} {g : Nat → Int32} (h : mFr C C') : mFr C (uf C' 15 g) := fun j a b => by rw [uf_ne b]; exact h j a b
theorem mFr_14 {C C' : Nat → Nat → Int32} {g : Nat → Int32} (h : mFr C C') : mFr C (uf C' 14 g) := fun j a b => by rw [uf_ne a]; exact h j a b
section M
variable {E : mmE} {d : Nat} {h : mmH} {Q : Option Value → mmH → Prop} {o : Nat} {ad : Nat → Nat} {I : Nat → Int32} {C : Nat → Nat → Int32} {S : Nat → List qR}
theorem sp_mfield {s k f : Nat} (hD : mD o ad) (hS : mS3 C S) (hs : s < 3) (hk : k < (S s).length) (hf : f < 8) (hq : Q (some (.int (q_rf ((S s).getD k q_r0) f))) (mH h o ad I C)) : mm_Go E d 152 (mm_blk 152 0) [.ref o, .int (nI s), .int (nI k), .int (nI f)] [] (mH h o ad I C) Q := by
  obtain ⟨h1, h2, h3⟩ := hS s hs
  repeat (first | refine gi_con ?_ | refine gi_bip (Nat.le_of_ble_eq_true rfl) ?_ | refine gi_sip (Nat.le_of_ble_eq_true rfl) ?_ | refine gi_ldc ?_ | refine gi_add ?_ | refine gi_inc rfl ?_ | refine gi_sub (by omega) ?_ | refine gi_mul ?_ | refine go_nx rfl ?_)
  refine gm_get (.ref (ad 15)) rfl rfl ?_
  repeat (first | refine gi_con ?_ | refine gi_bip (Nat.le_of_ble_eq_true rfl) ?_ | refine gi_sip (Nat.le_of_ble_eq_true rfl) ?_ | refine gi_ldc ?_ | refine gi_add ?_ | refine gi_inc rfl ?_ | refine gi_sub (by omega) ?_ | refine gi_mul ?_ | refine go_nx rfl ?_)
  refine gm_ild hD (by decide) rfl (show 8000 * s + 8 * k + f < 24000 by omega) (by decide) ?_
  rw [h3 k hk f hf]
  refine go_rt rfl ?_
  exact hq
theorem mS3_snoc {s : Nat} {r : qR} {g : Nat → Int32} (hS : mS3 C S) (hs : s < 3) (hl : (S s).length < 1000) (h1 : ∀ j, (∀ f, f < 8 → j ≠ 8000 * s + 8 * (S s).length + f) → g j = C 15 j) (h2 : ∀ f, f < 8 → g (8000 * s + 8 * (S s).length + f) = q_rf r f) : mS3 (uf (uf C 15 g) 14 (uf (C 14) s (nI ((S s).length + 1)))) (uf S s (S s ++ [r])) := by
  intro t ht
  obtain ⟨a1, a2, a3⟩ := hS t ht
  have e15 : (uf (uf C 15 g) 14 (uf (C 14) s (nI ((S s).length + 1)))) 15 = g := by rw [uf_ne (by decide), uf_at]
  rw [uf_at, e15]
  by_cases hts : t = s
  · subst hts
    rw [uf_at, uf_at]
    have hlen : (S t ++ [r]).length = (S t).length + 1 := by rw [List.length_append]; rfl
    rw [hlen]
    refine ⟨by omega, rfl, fun k hk f hf => ?_⟩
    by_cases hk2 : k = (S t).length
    · rw [hk2, h2 f hf, List.getD_eq_getElem?_getD, List.getElem?_append_right (Nat.le_refl _), Nat.sub_self]
      rfl
    · rw [h1 _ (fun f' hf' => by omega), a3 k (by omega) f hf, List.getD_eq_getElem?_getD, List.getD_eq_getElem?_getD, List.getElem?_append_left (by omega)]
  · rw [uf_ne hts, uf_ne hts]
    refine ⟨a1, a2, fun k hk f hf => ?_⟩
    rw [h1 _ (fun f' hf' => by omega)]
    exact a3 k hk f hf
theorem sp_mwriteX {s : Nat} {r : qR} (hD : mD o ad) (hS : mS3 C S) (hs : s < 3) (hl : (S s).length < 1000) (hq : ∀ C', mS3 C' (uf S s (S s ++ [r])) → mFr C C' → (∀ j, (∀ f, f < 8 → j ≠ 8000 * s + 8 * (S s).length + f) → C' 15 j = C 15 j) → (∀ j, j ≠ s → C' 14 j = C 14 j) → Q none (mH h o ad I C')) : mm_Go E d 158 (mm_blk 158 0) [.ref o, .int (nI s), .int (q_rf r 0), .int (q_rf r 1), .int (q_rf r 2), .int (q_rf r 3), .int (q_rf r 4), .int (q_rf r 5), .int (q_rf r 6), .int (q_rf r 7), mm_un] [] (mH h o ad I C) Q := by
  have a2 := (hS s hs).2.1
  repeat (first | refine gi_con ?_ | refine gi_bip (Nat.le_of_ble_eq_true rfl) ?_ | refine gi_sip (Nat.le_of_ble_eq_true rfl) ?_ | refine gi_ldc ?_ | refine gi_add ?_ | refine gi_inc rfl ?_ | refine gi_sub (by omega) ?_ | refine gi_mul ?_ | refine go_nx rfl ?_)
  refine gm_get (.ref (ad 14)) rfl rfl ?_
  repeat (first | refine gi_con ?_ | refine gi_bip (Nat.le_of_ble_eq_true rfl) ?_ | refine gi_sip (Nat.le_of_ble_eq_true rfl) ?_ | refine gi_ldc ?_ | refine gi_add ?_ | refine gi_inc rfl ?_ | refine gi_sub (by omega) ?_ | refine gi_mul ?_ | refine go_nx rfl ?_)
  refine gm_ild hD (by decide) rfl (show s < 3 from hs) (by decide) ?_
  rw [a2]
  repeat (first | refine gi_con ?_ | refine gi_bip (Nat.le_of_ble_eq_true rfl) ?_ | refine gi_sip (Nat.le_of_ble_eq_true rfl) ?_ | refine gi_ldc ?_ | refine gi_add ?_ | refine gi_inc rfl ?_ | refine gi_sub (by omega) ?_ | refine gi_mul ?_ | refine go_nx rfl ?_)
  refine gm_get (.ref (ad 15)) rfl rfl ?_
  repeat (first | refine gi_con ?_ | refine gi_bip (Nat.le_of_ble_eq_true rfl) ?_ | refine gi_sip (Nat.le_of_ble_eq_true rfl) ?_ | refine gi_ldc ?_ | refine gi_add ?_ | refine gi_inc rfl ?_ | refine gi_sub (by omega) ?_ | refine gi_mul ?_ | refine go_nx rfl ?_)
  refine gm_ist hD (by decide) rfl (show 8000 * s + 8 * (S s).length < 24000 by omega) (by decide) ?_
  repeat (first | refine gi_con ?_ | refine gi_bip (Nat.le_of_ble_eq_true rfl) ?_ | refine gi_sip (Nat.le_of_ble_eq_true rfl) ?_ | refine gi_ldc ?_ | refine gi_add ?_ | refine gi_inc rfl ?_ | refine gi_sub (by omega) ?_ | refine gi_mul ?_ | refine go_nx rfl ?_)
  refine gm_get (.ref (ad 15)) rfl rfl ?_
  repeat (first | refine gi_con ?_ | refine gi_bip (Nat.le_of_ble_eq_true rfl) ?_ | refine gi_sip (Nat.le_of_ble_eq_true rfl) ?_ | refine gi_ldc ?_ | refine gi_add ?_ | refine gi_inc rfl ?_ | refine gi_sub (by omega) ?_ | refine gi_mul ?_ | refine go_nx rfl ?_)
  refine gm_ist hD (by decide) rfl (show 8000 * s + 8 * (S s).length + 1 < 24000 by omega) (by decide) ?_
  repeat (first | refine gi_con ?_ | refine gi_bip (Nat.le_of_ble_eq_true rfl) ?_ | refine gi_sip (Nat.le_of_ble_eq_true rfl) ?_ | refine gi_ldc ?_ | refine gi_add ?_ | refine gi_inc rfl ?_ | refine gi_sub (by omega) ?_ | refine gi_mul ?_ | refine go_nx rfl ?_)
  refine gm_get (.ref (ad 15)) rfl rfl ?_
  repeat (first | refine gi_con ?_ | refine gi_bip (Nat.le_of_ble_eq_true rfl) ?_ | refine gi_sip (Nat.le_of_ble_eq_true rfl) ?_ | refine gi_ldc ?_ | refine gi_add ?_ | refine gi_inc rfl ?_ | refine gi_sub (by omega) ?_ | refine gi_mul ?_ | refine go_nx rfl ?_)
  refine gm_ist hD (by decide) rfl (show 8000 * s + 8 * (S s).length + 2 < 24000 by omega) (by decide) ?_
  repeat (first | refine gi_con ?_ | refine gi_bip (Nat.le_of_ble_eq_true rfl) ?_ | refine gi_sip (Nat.le_of_ble_eq_true rfl) ?_ | refine gi_ldc ?_ | refine gi_add ?_ | refine gi_inc rfl ?_ | refine gi_sub (by omega) ?_ | refine gi_mul ?_ | refine go_nx rfl ?_)
  refine gm_get (.ref (ad 15)) rfl rfl ?_
  repeat (first | refine gi_con ?_ | refine gi_bip (Nat.le_of_ble_eq_true rfl) ?_ | refine gi_sip (Nat.le_of_ble_eq_true rfl) ?_ | refine gi_ldc ?_ | refine gi_add ?_ | refine gi_inc rfl ?_ | refine gi_sub (by omega) ?_ | refine gi_mul ?_ | refine go_nx rfl ?_)
  refine gm_ist hD (by decide) rfl (show 8000 * s + 8 * (S s).length + 3 < 24000 by omega) (by decide) ?_
  repeat (first | refine gi_con ?_ | refine gi_bip (Nat.le_of_ble_eq_true rfl) ?_ | refine gi_sip (Nat.le_of_ble_eq_true rfl) ?_ | refine gi_ldc ?_ | refine gi_add ?_ | refine gi_inc rfl ?_ | refine gi_sub (by omega) ?_ | refine gi_mul ?_ | refine go_nx rfl ?_)
  refine gm_get (.ref (ad 15)) rfl rfl ?_
  repeat (first | refine gi_con ?_ | refine gi_bip (Nat.le_of_ble_eq_true rfl) ?_ | refine gi_sip (Nat.le_of_ble_eq_true rfl) ?_ | refine gi_ldc ?_ | refine gi_add ?_ | refine gi_inc rfl ?_ | refine gi_sub (by omega) ?_ | refine gi_mul ?_ | refine go_nx rfl ?_)
  refine gm_ist hD (by decide) rfl (show 8000 * s + 8 * (S s).length + 4 < 24000 by omega) (by decide) ?_
  repeat (first | refine gi_con ?_ | refine gi_bip (Nat.le_of_ble_eq_true rfl) ?_ | refine gi_sip (Nat.le_of_ble_eq_true rfl) ?_ | refine gi_ldc ?_ | refine gi_add ?_ | refine gi_inc rfl ?_ | refine gi_sub (by omega) ?_ | refine gi_mul ?_ | refine go_nx rfl ?_)
  refine gm_get (.ref (ad 15)) rfl rfl ?_
  repeat (first | refine gi_con ?_ | refine gi_bip (Nat.le_of_ble_eq_true rfl) ?_ | refine gi_sip (Nat.le_of_ble_eq_true rfl) ?_ | refine gi_ldc ?_ | refine gi_add ?_ | refine gi_inc rfl ?_ | refine gi_sub (by omega) ?_ | refine gi_mul ?_ | refine go_nx rfl ?_)
  refine gm_ist hD (by decide) rfl (show 8000 * s + 8 * (S s).length + 5 < 24000 by omega) (by decide) ?_
  repeat (first | refine gi_con ?_ | refine gi_bip (Nat.le_of_ble_eq_true rfl) ?_ | refine gi_sip (Nat.le_of_ble_eq_true rfl) ?_ | refine gi_ldc ?_ | refine gi_add ?_ | refine gi_inc rfl ?_ | refine gi_sub (by omega) ?_ | refine gi_mul ?_ | refine go_nx rfl ?_)
  refine gm_get (.ref (ad 15)) rfl rfl ?_
  repeat (first | refine gi_con ?_ | refine gi_bip (Nat.le_of_ble_eq_true rfl) ?_ | refine gi_sip (Nat.le_of_ble_eq_true rfl) ?_ | refine gi_ldc ?_ | refine gi_add ?_ | refine gi_inc rfl ?_ | refine gi_sub (by omega) ?_ | refine gi_mul ?_ | refine go_nx rfl ?_)
  refine gm_ist hD (by decide) rfl (show 8000 * s + 8 * (S s).length + 6 < 24000 by omega) (by decide) ?_
  repeat (first | refine gi_con ?_ | refine gi_bip (Nat.le_of_ble_eq_true rfl) ?_ | refine gi_sip (Nat.le_of_ble_eq_true rfl) ?_ | refine gi_ldc ?_ | refine gi_add ?_ | refine gi_inc rfl ?_ | refine gi_sub (by omega) ?_ | refine gi_mul ?_ | refine go_nx rfl ?_)
  refine gm_get (.ref (ad 15)) rfl rfl ?_
  repeat (first | refine gi_con ?_ | refine gi_bip (Nat.le_of_ble_eq_true rfl) ?_ | refine gi_sip (Nat.le_of_ble_eq_true rfl) ?_ | refine gi_ldc ?_ | refine gi_add ?_ | refine gi_inc rfl ?_ | refine gi_sub (by omega) ?_ | refine gi_mul ?_ | refine go_nx rfl ?_)
  refine gm_ist hD (by decide) rfl (show 8000 * s + 8 * (S s).length + 7 < 24000 by omega) (by decide) ?_
  simp only [uf_uf, uf_at]
  repeat (first | refine gi_con ?_ | refine gi_bip (Nat.le_of_ble_eq_true rfl) ?_ | refine gi_sip (Nat.le_of_ble_eq_true rfl) ?_ | refine gi_ldc ?_ | refine gi_add ?_ | refine gi_inc rfl ?_ | refine gi_sub (by omega) ?_ | refine gi_mul ?_ | refine go_nx rfl ?_)
  refine gm_get (.ref (ad 14)) rfl rfl ?_
  repeat (first | refine gi_con ?_ | refine gi_bip (Nat.le_of_ble_eq_true rfl) ?_ | refine gi_sip (Nat.le_of_ble_eq_true rfl) ?_ | refine gi_ldc ?_ | refine gi_add ?_ | refine gi_inc rfl ?_ | refine gi_sub (by omega) ?_ | refine gi_mul ?_ | refine go_nx rfl ?_)
  refine gm_ild hD (by decide) rfl (show s < 3 from hs) (by decide) ?_
  rw [uf_ne (show (14 : Nat) ≠ 15 by decide), a2]
  repeat (first | refine gi_con ?_ | refine gi_bip (Nat.le_of_ble_eq_true rfl) ?_ | refine gi_sip (Nat.le_of_ble_eq_true rfl) ?_ | refine gi_ldc ?_ | refine gi_add ?_ | refine gi_inc rfl ?_ | refine gi_sub (by omega) ?_ | refine gi_mul ?_ | refine go_nx rfl ?_)
  refine gm_ist hD (by decide) rfl (show s < 3 from hs) (by decide) ?_
  refine go_rt rfl ?_
  rw [uf_ne (show (14 : Nat) ≠ 15 by decide)]
  refine hq _ (mS3_snoc hS hs hl (fun j hj => ?_) (fun f hf => ?_)) (mFr_14 (mFr_15 (mFr_r C))) (fun j hj => ?_) (fun j hj => by rw [uf_at, uf_ne hj])
  · rw [uf_ne (hj 7 (by omega)), uf_ne (hj 6 (by omega)), uf_ne (hj 5 (by omega)), uf_ne (hj 4 (by omega)), uf_ne (hj 3 (by omega)), uf_ne (hj 2 (by omega)), uf_ne (hj 1 (by omega)), uf_ne (show j ≠ 8000 * s + 8 * (S s).length from hj 0 (by omega))]
  · have : f = 0 ∨ f = 1 ∨ f = 2 ∨ f = 3 ∨ f = 4 ∨ f = 5 ∨ f = 6 ∨ f = 7 := by omega
    rcases this with rfl | rfl | rfl | rfl | rfl | rfl | rfl | rfl
    · rw [uf_ne (by omega), uf_ne (by omega), uf_ne (by omega), uf_ne (by omega), uf_ne (by omega), uf_ne (by omega), uf_ne (by omega)]
      exact uf_at _ _ _
    · rw [uf_ne (by omega), uf_ne (by omega), uf_ne (by omega), uf_ne (by omega), uf_ne (by omega), uf_ne (by omega), uf_at]
    · rw [uf_ne (by omega), uf_ne (by omega), uf_ne (by omega), uf_ne (by omega), uf_ne (by omega), uf_at]
    · rw [uf_ne (by omega), uf_ne (by omega), uf_ne (by omega), uf_ne (by omega), uf_at]
    · rw [uf_ne (by omega), uf_ne (by omega), uf_ne (by omega), uf_at]
    · rw [uf_ne (by omega), uf_ne (by omega), uf_at]
    · rw [uf_ne (by omega), uf_at]
    · rw [uf_at]
  · rw [uf_ne (show (15 : Nat) ≠ 14 by decide), uf_at, uf_ne (hj 7 (by omega)), uf_ne (hj 6 (by omega)), uf_ne (hj 5 (by omega)), uf_ne (hj 4 (by omega)), uf_ne (hj 3 (by omega)), uf_ne (hj 2 (by omega)), uf_ne (hj 1 (by omega)), uf_ne (show j ≠ 8000 * s + 8 * (S s).length from hj 0 (by omega))]
theorem sp_mwrite {s : Nat} {r : qR} (hD : mD o ad) (hS : mS3 C S) (hs : s < 3) (hl : (S s).length < 1000) (hq : ∀ C', mS3 C' (uf S s (S s ++ [r])) → mFr C C' → Q none (mH h o ad I C')) : mm_Go E d 158 (mm_blk 158 0) [.ref o, .int (nI s), .int (q_rf r 0), .int (q_rf r 1), .int (q_rf r 2), .int (q_rf r 3), .int (q_rf r 4), .int (q_rf r 5), .int (q_rf r 6), .int (q_rf r 7), mm_un] [] (mH h o ad I C) Q := sp_mwriteX hD hS hs hl (fun C' h1 h2 _ _ => hq C' h1 h2)
/-- a point -/
def q_pt (B : Nat → Nat) (p : Nat) : qR := ((q_cls (B p), 1, 1, p), (q_cls (B p), 1, 1, p))
theorem sp_mwriteValueX {s p n lev : Nat} {R B : Nat → Nat} (hd : 1 ≤ d) (hD : mD o ad) (hC : ∀ j, j < 22100 → C 1 j = sb_b (R j)) (hR : ∀ j, R j < 256) (hw : mW R 0 n B) (hp : q_me B n p lev) (hS : mS3 C S) (hs : s < 3) (hl : (S s).length < 1000) (hq : ∀ C', mS3 C' (uf S s (S s ++ [q_pt B p])) → mFr C C' → (∀ j, (∀ f, f < 8 → j ≠ 8000 * s + 8 * (S s).length + f) → C' 15 j = C 15 j) → (∀ j, j ≠ s → C' 14 j = C 14 j) → Q none (mH h o ad I C')) : mm_Go E d 157 (mm_blk 157 0) [.ref o, .int (nI s), .int (nI p), mm_un] [] (mH h o ad I C) Q := by
  have hm : ∀ I, mSt (mH h o ad I C) o (ad 1) R := fun I => mH_st hD hC hR
  repeat (first | refine gi_con ?_ | refine gi_bip (Nat.le_of_ble_eq_true rfl) ?_ | refine gi_sip (Nat.le_of_ble_eq_true rfl) ?_ | refine gi_ldc ?_ | refine gi_add ?_ | refine gi_inc rfl ?_ | refine gi_sub (by omega) ?_ | refine gi_mul ?_ | refine go_nx rfl ?_)
  refine go_step ?_
  refine g_callV (by decide) (by decide) (Nat.le_of_ble_eq_true rfl) (Nat.le_of_ble_eq_true rfl) mH_rcv (by omega) (Nat.le_of_ble_eq_true rfl) rfl ?_
  rw [show p = 0 + p by omega]
  refine sp_mat2 (hm _) hw (q_me_ok hp).1 ?_
  rw [show 0 + p = p by omega]
  repeat (first | refine gi_con ?_ | refine gi_bip (Nat.le_of_ble_eq_true rfl) ?_ | refine gi_sip (Nat.le_of_ble_eq_true rfl) ?_ | refine gi_ldc ?_ | refine gi_add ?_ | refine gi_inc rfl ?_ | refine gi_sub (by omega) ?_ | refine gi_mul ?_ | refine go_nx rfl ?_)
  refine go_step ?_
  refine g_call (k := 154) rfl (by omega) (Nat.le_of_ble_eq_true rfl) rfl ?_
  refine sp_mcls (q_me_kind hp) ?_
  repeat (first | refine gi_con ?_ | refine gi_bip (Nat.le_of_ble_eq_true rfl) ?_ | refine gi_sip (Nat.le_of_ble_eq_true rfl) ?_ | refine gi_ldc ?_ | refine gi_add ?_ | refine gi_inc rfl ?_ | refine gi_sub (by omega) ?_ | refine gi_mul ?_ | refine go_nx rfl ?_)
  refine go_step ?_
  refine g_callV (by decide) (by decide) (Nat.le_of_ble_eq_true rfl) (Nat.le_of_ble_eq_true rfl) mH_rcv (by omega) (Nat.le_of_ble_eq_true rfl) rfl ?_
  refine sp_mwriteX (r := q_pt B p) hD hS hs hl (fun C' h1 h2 h3 h4 => ?_)
  repeat (first | refine gi_con ?_ | refine gi_bip (Nat.le_of_ble_eq_true rfl) ?_ | refine gi_sip (Nat.le_of_ble_eq_true rfl) ?_ | refine gi_ldc ?_ | refine gi_add ?_ | refine gi_inc rfl ?_ | refine gi_sub (by omega) ?_ | refine gi_mul ?_ | refine go_nx rfl ?_)
  refine go_rt rfl ?_
  exact hq C' h1 h2 h3 h4
theorem sp_mwriteValue {s p n lev : Nat} {R B : Nat → Nat} (hd : 1 ≤ d) (hD : mD o ad) (hC : ∀ j, j < 22100 → C 1 j = sb_b (R j)) (hR : ∀ j, R j < 256) (hw : mW R 0 n B) (hp : q_me B n p lev) (hS : mS3 C S) (hs : s < 3) (hl : (S s).length < 1000) (hq : ∀ C', mS3 C' (uf S s (S s ++ [q_pt B p])) → mFr C C' → Q none (mH h o ad I C')) : mm_Go E d 157 (mm_blk 157 0) [.ref o, .int (nI s), .int (nI p), mm_un] [] (mH h o ad I C) Q := sp_mwriteValueX hd hD hC hR hw hp hS hs hl (fun C' h1 h2 _ _ => hq C' h1 h2)
theorem sp_mcopy {s t : Nat} (hD : mD o ad) (hS : mS3 C S) (hs : s < 3) (ht : t < 3) (hst : s ≠ t) (hq : ∀ C', mS3 C' (uf S t (S s)) → mFr C C' → Q none (mH h o ad I C')) : mm_Go E d 161 (mm_blk 161 0) [.ref o, .int (nI s), .int (nI t), mm_un] [] (mH h o ad I C) Q := by
  obtain ⟨b1, b2, b3⟩ := hS s hs
  have loop : ∀ (k i : Nat) (g : Nat → Int32), k + i = 8 * (S s).length → (∀ j, j < i → g (8000 * t + j) = C 15 (8000 * s + j)) → (∀ j, (j < 8000 * t ∨ 8000 * t + 8000 ≤ j) → g j = C 15 j) → mm_Go E d 161 (mm_blk 161 1) [.ref o, .int (nI s), .int (nI t), .int (nI i)] [] (mH h o ad I (uf (uf C 14 (uf (C 14) t (nI (S s).length))) 15 g)) Q := by
    intro k
    induction k with
    | zero =>
      intro i g hk h1 h2
      repeat (first | refine gi_con ?_ | refine gi_bip (Nat.le_of_ble_eq_true rfl) ?_ | refine gi_sip (Nat.le_of_ble_eq_true rfl) ?_ | refine gi_ldc ?_ | refine gi_add ?_ | refine gi_inc rfl ?_ | refine gi_sub (by omega) ?_ | refine gi_mul ?_ | refine go_nx rfl ?_)
      refine gm_get (.ref (ad 14)) rfl rfl ?_
      repeat (first | refine gi_con ?_ | refine gi_bip (Nat.le_of_ble_eq_true rfl) ?_ | refine gi_sip (Nat.le_of_ble_eq_true rfl) ?_ | refine gi_ldc ?_ | refine gi_add ?_ | refine gi_inc rfl ?_ | refine gi_sub (by omega) ?_ | refine gi_mul ?_ | refine go_nx rfl ?_)
      refine gm_ild hD (by decide) rfl (show s < 3 from hs) (by decide) ?_
      rw [uf_ne (show (14 : Nat) ≠ 15 by decide), uf_at, uf_ne hst, b2]
      repeat (first | refine gi_con ?_ | refine gi_bip (Nat.le_of_ble_eq_true rfl) ?_ | refine gi_sip (Nat.le_of_ble_eq_true rfl) ?_ | refine gi_ldc ?_ | refine gi_add ?_ | refine gi_inc rfl ?_ | refine gi_sub (by omega) ?_ | refine gi_mul ?_ | refine go_nx rfl ?_)
      first | refine gb_lt (by omega) (by omega) (fun c => ?_) (fun c => ?_) | refine gb_ge (by omega) (by omega) (fun c => ?_) (fun c => ?_) | refine gb_gt (by omega) (by omega) (fun c => ?_) (fun c => ?_) | refine gb_le (by omega) (by omega) (fun c => ?_) (fun c => ?_) | refine gb_eq (by omega) (by omega) (fun c => ?_) (fun c => ?_) | refine gb_ne (by omega) (by omega) (fun c => ?_) (fun c => ?_)
      · refine go_rt rfl ?_
        refine hq _ (fun r hr => ?_) (mFr_15 (mFr_14 (mFr_r C)))
        rw [uf_ne (show (14 : Nat) ≠ 15 by decide), uf_at, uf_at]
        obtain ⟨a1, a2, a3⟩ := hS r hr
        by_cases hrt : r = t
        · subst hrt
          rw [uf_at, uf_at]
          refine ⟨b1, rfl, fun k hk f hf => ?_⟩
          rw [Nat.add_assoc, h1 _ (by omega), ← Nat.add_assoc]
          exact b3 k hk f hf
        · rw [uf_ne hrt, uf_ne hrt]
          refine ⟨a1, a2, fun k hk f hf => ?_⟩
          rw [h2 _ (by omega)]
          exact a3 k hk f hf
      · omega
    | succ k ih =>
      intro i g hk h1 h2
      repeat (first | refine gi_con ?_ | refine gi_bip (Nat.le_of_ble_eq_true rfl) ?_ | refine gi_sip (Nat.le_of_ble_eq_true rfl) ?_ | refine gi_ldc ?_ | refine gi_add ?_ | refine gi_inc rfl ?_ | refine gi_sub (by omega) ?_ | refine gi_mul ?_ | refine go_nx rfl ?_)
      refine gm_get (.ref (ad 14)) rfl rfl ?_
      repeat (first | refine gi_con ?_ | refine gi_bip (Nat.le_of_ble_eq_true rfl) ?_ | refine gi_sip (Nat.le_of_ble_eq_true rfl) ?_ | refine gi_ldc ?_ | refine gi_add ?_ | refine gi_inc rfl ?_ | refine gi_sub (by omega) ?_ | refine gi_mul ?_ | refine go_nx rfl ?_)
      refine gm_ild hD (by decide) rfl (show s < 3 from hs) (by decide) ?_
      rw [uf_ne (show (14 : Nat) ≠ 15 by decide), uf_at, uf_ne hst, b2]
      repeat (first | refine gi_con ?_ | refine gi_bip (Nat.le_of_ble_eq_true rfl) ?_ | refine gi_sip (Nat.le_of_ble_eq_true rfl) ?_ | refine gi_ldc ?_ | refine gi_add ?_ | refine gi_inc rfl ?_ | refine gi_sub (by omega) ?_ | refine gi_mul ?_ | refine go_nx rfl ?_)
      first | refine gb_lt (by omega) (by omega) (fun c => ?_) (fun c => ?_) | refine gb_ge (by omega) (by omega) (fun c => ?_) (fun c => ?_) | refine gb_gt (by omega) (by omega) (fun c => ?_) (fun c => ?_) | refine gb_le (by omega) (by omega) (fun c => ?_) (fun c => ?_) | refine gb_eq (by omega) (by omega) (fun c => ?_) (fun c => ?_) | refine gb_ne (by omega) (by omega) (fun c => ?_) (fun c => ?_)
      · omega
      repeat (first | refine gi_con ?_ | refine gi_bip (Nat.le_of_ble_eq_true rfl) ?_ | refine gi_sip (Nat.le_of_ble_eq_true rfl) ?_ | refine gi_ldc ?_ | refine gi_add ?_ | refine gi_inc rfl ?_ | refine gi_sub (by omega) ?_ | refine gi_mul ?_ | refine go_nx rfl ?_)
      refine gm_get (.ref (ad 15)) rfl rfl ?_
      repeat (first | refine gi_con ?_ | refine gi_bip (Nat.le_of_ble_eq_true rfl) ?_ | refine gi_sip (Nat.le_of_ble_eq_true rfl) ?_ | refine gi_ldc ?_ | refine gi_add ?_ | refine gi_inc rfl ?_ | refine gi_sub (by omega) ?_ | refine gi_mul ?_ | refine go_nx rfl ?_)
      refine gm_get (.ref (ad 15)) rfl rfl ?_
      repeat (first | refine gi_con ?_ | refine gi_bip (Nat.le_of_ble_eq_true rfl) ?_ | refine gi_sip (Nat.le_of_ble_eq_true rfl) ?_ | refine gi_ldc ?_ | refine gi_add ?_ | refine gi_inc rfl ?_ | refine gi_sub (by omega) ?_ | refine gi_mul ?_ | refine go_nx rfl ?_)
      refine gm_ild hD (by decide) rfl (show 8000 * s + i < 24000 by omega) (by decide) ?_
      repeat (first | refine gi_con ?_ | refine gi_bip (Nat.le_of_ble_eq_true rfl) ?_ | refine gi_sip (Nat.le_of_ble_eq_true rfl) ?_ | refine gi_ldc ?_ | refine gi_add ?_ | refine gi_inc rfl ?_ | refine gi_sub (by omega) ?_ | refine gi_mul ?_ | refine go_nx rfl ?_)
      refine gm_ist hD (by decide) rfl (show 8000 * t + i < 24000 by omega) (by decide) ?_
      rw [uf_at, uf_uf]
      repeat (first | refine gi_con ?_ | refine gi_bip (Nat.le_of_ble_eq_true rfl) ?_ | refine gi_sip (Nat.le_of_ble_eq_true rfl) ?_ | refine gi_ldc ?_ | refine gi_add ?_ | refine gi_inc rfl ?_ | refine gi_sub (by omega) ?_ | refine gi_mul ?_ | refine go_nx rfl ?_)
      refine go_jp rfl ?_
      refine ih (i + 1) _ (by omega) (fun j hj => ?_) (fun j hj => ?_)
      · by_cases hji : j = i
        · rw [hji, uf_at]
          exact h2 _ (by omega)
        · rw [uf_ne (by omega)]
          exact h1 j (by omega)
      · rw [uf_ne (by omega)]
        exact h2 j hj
  repeat (first | refine gi_con ?_ | refine gi_bip (Nat.le_of_ble_eq_true rfl) ?_ | refine gi_sip (Nat.le_of_ble_eq_true rfl) ?_ | refine gi_ldc ?_ | refine gi_add ?_ | refine gi_inc rfl ?_ | refine gi_sub (by omega) ?_ | refine gi_mul ?_ | refine go_nx rfl ?_)
  refine gm_get (.ref (ad 14)) rfl rfl ?_
  repeat (first | refine gi_con ?_ | refine gi_bip (Nat.le_of_ble_eq_true rfl) ?_ | refine gi_sip (Nat.le_of_ble_eq_true rfl) ?_ | refine gi_ldc ?_ | refine gi_add ?_ | refine gi_inc rfl ?_ | refine gi_sub (by omega) ?_ | refine gi_mul ?_ | refine go_nx rfl ?_)
  refine gm_get (.ref (ad 14)) rfl rfl ?_
  repeat (first | refine gi_con ?_ | refine gi_bip (Nat.le_of_ble_eq_true rfl) ?_ | refine gi_sip (Nat.le_of_ble_eq_true rfl) ?_ | refine gi_ldc ?_ | refine gi_add ?_ | refine gi_inc rfl ?_ | refine gi_sub (by omega) ?_ | refine gi_mul ?_ | refine go_nx rfl ?_)
  refine gm_ild hD (by decide) rfl (show s < 3 from hs) (by decide) ?_
  rw [b2]
  repeat (first | refine gi_con ?_ | refine gi_bip (Nat.le_of_ble_eq_true rfl) ?_ | refine gi_sip (Nat.le_of_ble_eq_true rfl) ?_ | refine gi_ldc ?_ | refine gi_add ?_ | refine gi_inc rfl ?_ | refine gi_sub (by omega) ?_ | refine gi_mul ?_ | refine go_nx rfl ?_)
  refine gm_ist hD (by decide) rfl (show t < 3 from ht) (by decide) ?_
  repeat (first | refine gi_con ?_ | refine gi_bip (Nat.le_of_ble_eq_true rfl) ?_ | refine gi_sip (Nat.le_of_ble_eq_true rfl) ?_ | refine gi_ldc ?_ | refine gi_add ?_ | refine gi_inc rfl ?_ | refine gi_sub (by omega) ?_ | refine gi_mul ?_ | refine go_nx rfl ?_)
  refine go_jp rfl ?_
  have e : uf C 14 (uf (C 14) t (nI (S s).length)) = uf (uf C 14 (uf (C 14) t (nI (S s).length))) 15 (C 15) := by
    funext j
    unfold uf
    by_cases h15 : j = 15
    · subst h15
      rfl
    · rw [if_neg h15]
  rw [e]
  exact loop (8 * (S s).length) 0 (C 15) (by omega) (fun j hj => by omega) (fun j hj => rfl)
end M
