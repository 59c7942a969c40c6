/-! THE COMMANDS: feed -/
def q_byte (v : Int32) (sh : Nat) : Nat := (v >>> (nI sh &&& 31)).toBitVec.toNat % 256
theorem q_byte_lt (v : Int32) (sh : Nat) : q_byte v sh < 256 := Nat.mod_lt _ (by decide)
theorem q_byte_sb (v : Int32) (sh : Nat) : (v >>> (nI sh &&& 31)).toInt8.toInt32 = sb_b (q_byte v sh) := by
  unfold q_byte sb_b
  generalize v >>> (nI sh &&& 31) = y
  congr 1
  apply Int8.toBitVec_inj.mp
  show y.toBitVec.signExtend 8 = (BitVec.ofNat 32 (y.toBitVec.toNat % 256)).signExtend 8
  rw [BitVec.signExtend_eq_setWidth_of_le _ (by decide), BitVec.signExtend_eq_setWidth_of_le _ (by decide)]
  apply BitVec.eq_of_toNat_eq
  rw [BitVec.toNat_setWidth, BitVec.toNat_setWidth, BitVec.toNat_ofNat]
  have := y.toBitVec.isLt
  omega
def q_put (R : Nat → Nat) (T : Nat) (v : Int32) : Nat → Nat := fun j => if j = 20000 + T then q_byte v 24 else if j = 20000 + T + 1 then q_byte v 16 else if j = 20000 + T + 2 then q_byte v 8 else if j = 20000 + T + 3 then q_byte v 0 else R j
def q_fedb (l : List Int32) (j : Nat) : Nat := q_byte (l.getD (j / 4) 0) (24 - 8 * (j % 4))
def q_feed (t : qB) (l : List Int32) : qB := (t.1 + 20, fun j => if j < t.1 then t.2 j else q_fedb l (j - t.1))
def a_feed (t : qB) : Int32 := if 1980 < t.1 then -1 else nI (t.1 + 20)
def s_feed (t : qB) (l : List Int32) : qB := if 1980 < t.1 then t else q_feed t l
section M
variable {E : mmE} {d : Nat} {h : mmH} {Q : Option Value → mmH → Prop} {o : Nat} {ad : Nat → Nat} {I : Nat → Int32} {C : Nat → Nat → Int32} {R : Nat → Nat} {t : qB} {F V : Option qB} {X : Nat → Option qX}
theorem mm_nar0 (z : Int32) : mm_nar (mTag 1) z.toInt8.toInt32 = z.toInt8.toInt32 := pk_vb z
theorem sp_mput {T : Nat} {v : Int32} (hD : mD o ad) (hC : ∀ j, j < 22100 → C 1 j = sb_b (R j)) (hT : T + 4 ≤ 2000) (hI : I 2 = nI T)
    (hq : ∀ C', (∀ j, j < 22100 → C' 1 j = sb_b (q_put R T v j)) → (∀ j, j ≠ 1 → C' j = C j) → Q none (mH h o ad (uf I 2 (nI (T + 4))) C')) : mm_Go E d 109 (mm_blk 109 0) [.ref o, .int v, mm_un] [] (mH h o ad I C) Q := by
  have step : ∀ (sh T1 : Nat) (x2 : Int32) (I1 : Nat → Int32) (C1 : Nat → Nat → Int32), sh < 32 → T1 < 2000 → I1 2 = nI T1 → nI sh + Int32.ofInt (-8) = x2 → mm_Go E d 109 (mm_blk 109 1) [.ref o, .int v, .int x2] [] (mH h o ad (uf I1 2 (nI (T1 + 1))) (uf C1 1 (uf (C1 1) (20000 + T1) (sb_b (q_byte v sh))))) Q → mm_Go E d 109 (mm_blk 109 1) [.ref o, .int v, .int (nI sh)] [] (mH h o ad I1 C1) Q := by
    intro sh T1 x2 I1 C1 hsh hT1 hI1 hx2 hg
    repeat (first | refine gi_con ?_ | refine gi_bip (Nat.le_of_ble_eq_true rfl) ?_ | refine gi_sip (Nat.le_of_ble_eq_true rfl) ?_ | refine gi_ldc ?_ | refine gi_add ?_ | refine gi_inc rfl ?_ | refine gi_sub (by omega) ?_ | refine gi_mul ?_ | refine go_nx rfl ?_)
    first | refine gz_eq (by omega) (fun c => ?_) (fun c => ?_) | refine gz_ne (by omega) (fun c => ?_) (fun c => ?_) | refine gz_le (by omega) (fun c => ?_) (fun c => ?_) | refine gz_gt (by omega) (fun c => ?_) (fun c => ?_) | refine gz_lt (by omega) (fun c => ?_) (fun c => ?_) | refine gz_ge (by omega) (fun c => ?_) (fun c => ?_)
    · exact c.elim
    repeat (first | refine gi_con ?_ | refine gi_bip (Nat.le_of_ble_eq_true rfl) ?_ | refine gi_sip (Nat.le_of_ble_eq_true rfl) ?_ | refine gi_ldc ?_ | refine gi_add ?_ | refine gi_inc rfl ?_ | refine gi_sub (by omega) ?_ | refine gi_mul ?_ | refine go_nx rfl ?_)
    refine gm_get (.ref (ad 1)) rfl rfl ?_
    repeat (first | refine gi_con ?_ | refine gi_bip (Nat.le_of_ble_eq_true rfl) ?_ | refine gi_sip (Nat.le_of_ble_eq_true rfl) ?_ | refine gi_ldc ?_ | refine gi_add ?_ | refine gi_inc rfl ?_ | refine gi_sub (by omega) ?_ | refine gi_mul ?_ | refine go_nx rfl ?_)
    refine gm_get (.int (nI T1)) rfl (by rw [← hI1]; rfl) ?_
    repeat (first | refine gi_con ?_ | refine gi_bip (Nat.le_of_ble_eq_true rfl) ?_ | refine gi_sip (Nat.le_of_ble_eq_true rfl) ?_ | refine gi_ldc ?_ | refine gi_add ?_ | refine gi_inc rfl ?_ | refine gi_sub (by omega) ?_ | refine gi_mul ?_ | refine go_nx rfl ?_)
    refine gm_bst hD (by decide) (Or.inl rfl) (show 20000 + T1 < 22100 by omega) (by decide) ?_
    rw [mm_nar0, q_byte_sb]
    repeat (first | refine gi_con ?_ | refine gi_bip (Nat.le_of_ble_eq_true rfl) ?_ | refine gi_sip (Nat.le_of_ble_eq_true rfl) ?_ | refine gi_ldc ?_ | refine gi_add ?_ | refine gi_inc rfl ?_ | refine gi_sub (by omega) ?_ | refine gi_mul ?_ | refine go_nx rfl ?_)
    refine gm_get (.int (nI T1)) rfl (by rw [← hI1]; rfl) ?_
    repeat (first | refine gi_con ?_ | refine gi_bip (Nat.le_of_ble_eq_true rfl) ?_ | refine gi_sip (Nat.le_of_ble_eq_true rfl) ?_ | refine gi_ldc ?_ | refine gi_add ?_ | refine gi_inc rfl ?_ | refine gi_sub (by omega) ?_ | refine gi_mul ?_ | refine go_nx rfl ?_)
    refine gm_put 2 rfl rfl (by decide) rfl ?_
    repeat (first | refine gi_con ?_ | refine gi_bip (Nat.le_of_ble_eq_true rfl) ?_ | refine gi_sip (Nat.le_of_ble_eq_true rfl) ?_ | refine gi_ldc ?_ | refine gi_add ?_ | refine gi_inc rfl ?_ | refine gi_sub (by omega) ?_ | refine gi_mul ?_ | refine go_nx rfl ?_)
    rw [hx2]
    refine go_jp rfl ?_
    exact hg
  repeat (first | refine gi_con ?_ | refine gi_bip (Nat.le_of_ble_eq_true rfl) ?_ | refine gi_sip (Nat.le_of_ble_eq_true rfl) ?_ | refine gi_ldc ?_ | refine gi_add ?_ | refine gi_inc rfl ?_ | refine gi_sub (by omega) ?_ | refine gi_mul ?_ | refine go_nx rfl ?_)
  refine go_jp rfl ?_
  refine step 24 T (nI 16) I C (by omega) (by omega) hI (by decide) ?_
  refine step 16 (T + 1) (nI 8) _ _ (by omega) (by omega) (uf_at _ _ _) (by decide) ?_
  refine step 8 (T + 1 + 1) (nI 0) _ _ (by omega) (by omega) (uf_at _ _ _) (by decide) ?_
  refine step 0 (T + 1 + 1 + 1) (Int32.ofInt (-8)) _ _ (by omega) (by omega) (uf_at _ _ _) (by decide) ?_
  rw [uf_uf, uf_uf, uf_uf, uf_uf, uf_uf, uf_uf, uf_at, uf_at, uf_at]
  repeat (first | refine gi_con ?_ | refine gi_bip (Nat.le_of_ble_eq_true rfl) ?_ | refine gi_sip (Nat.le_of_ble_eq_true rfl) ?_ | refine gi_ldc ?_ | refine gi_add ?_ | refine gi_inc rfl ?_ | refine gi_sub (by omega) ?_ | refine gi_mul ?_ | refine go_nx rfl ?_)
  refine gx_lt (fun c => ?_) (fun c => absurd (by decide) c)
  refine go_rt rfl ?_
  refine hq _ (fun j hj => ?_) (fun j hj => uf_ne hj)
  rw [uf_at]
  unfold q_put uf
  by_cases e1 : j = 20000 + T
  · rw [if_neg (by omega), if_neg (by omega), if_neg (by omega), if_pos e1, if_pos e1]
  rw [if_neg e1, if_neg e1]
  by_cases e2 : j = 20000 + T + 1
  · rw [if_neg (by omega), if_neg (by omega), if_pos (by omega), if_pos e2]
  rw [if_neg e2]
  by_cases e3 : j = 20000 + T + 2
  · rw [if_neg (by omega), if_pos (by omega), if_pos e3]
  rw [if_neg e3]
  by_cases e4 : j = 20000 + T + 3
  · rw [if_pos (by omega), if_pos e4]
  rw [if_neg e4, if_neg (by omega), if_neg (by omega), if_neg (by omega)]
  exact hC j hj
theorem q_put_lo {R : Nat → Nat} {T : Nat} {v : Int32} {j : Nat} (hj : j < 20000 + T) : q_put R T v j = R j := by
  unfold q_put
  rw [if_neg (by omega), if_neg (by omega), if_neg (by omega), if_neg (by omega)]
theorem q_put_at {R : Nat → Nat} {T : Nat} {v : Int32} {s : Nat} (hs : s < 4) : q_put R T v (20000 + T + s) = q_byte v (24 - 8 * s) := by
  unfold q_put
  have : s = 0 ∨ s = 1 ∨ s = 2 ∨ s = 3 := by omega
  rcases this with rfl | rfl | rfl | rfl
  · rw [if_pos (by omega)]
  · rw [if_neg (by omega), if_pos (by omega)]
  · rw [if_neg (by omega), if_neg (by omega), if_pos (by omega)]
  · rw [if_neg (by omega), if_neg (by omega), if_neg (by omega), if_pos (by omega)]
theorem q_put_lt {R : Nat → Nat} {T : Nat} {v : Int32} (hR : ∀ j, R j < 256) (j : Nat) : q_put R T v j < 256 := by
  unfold q_put
  repeat' split
  all_goals first | exact q_byte_lt _ _ | exact hR j
/-- a store that stays below 20000: all but the tape stands -/
theorem mInv_low {R R' : Nat → Nat} {I I' : Nat → Int32} {C C' : Nat → Nat → Int32} {t t' : qB} (h : mInv R I C t F V X) (hlo : ∀ j, j < 20000 → R' j = R j) (hR : ∀ j, R' j < 256) (hC1 : ∀ j, j < 22100 → C' 1 j = sb_b (R' j)) (hC : ∀ j, j ≠ 1 → C' j = C j) (hI : ∀ j, j ≠ 2 → I' j = I j) (ht : t'.1 ≤ 2000 ∧ I' 2 = nI t'.1 ∧ ∀ j, j < t'.1 → R' (20000 + j) = t'.2 j) : mInv R' I' C' t' F V X := by
  obtain ⟨h1, h2, ⟨S, hS⟩, h4, h5, h6, h7⟩ := h
  refine ⟨hC1, hR, ⟨S, fun r hr => by rw [hC 14 (by decide), hC 15 (by decide)]; exact hS r hr⟩, ht, ⟨by rw [hI 3 (by decide)]; exact h5.1, fun f hf => ?_⟩, ⟨by rw [hI 4 (by decide)]; exact h6.1, fun f hf => ?_⟩, fun i hi => ?_⟩
  · obtain ⟨⟨w1, w2, w3⟩, w4⟩ := h5.2 f hf
    exact ⟨⟨fun j hj => by rw [hlo _ (by have := w3.1; omega)]; exact w1 j hj, w2, w3⟩, w4⟩
  · obtain ⟨⟨w1, w2, w3⟩, w4⟩ := h6.2 f hf
    exact ⟨⟨fun j hj => by rw [hlo _ (by have := w3.1; omega)]; exact w1 j hj, w2, w3⟩, w4⟩
  · unfold mIx
    rw [hC 5 (by decide), hC 6 (by decide), hC 7 (by decide), hC 8 (by decide)]
    obtain ⟨e1, e2⟩ := h7 i hi
    refine ⟨e1, fun y hy => ?_⟩
    obtain ⟨a1, a2, a3, a4, a5, a6, a7, a8, a9, a10⟩ := e2 y hy
    exact ⟨a1, a2, a3, a4, a5, a6, fun j hj => by rw [hlo _ (by omega)]; exact a7 j hj, fun j hj => by rw [hlo _ (by omega)]; exact a8 j hj, a9, a10⟩
theorem sp_mfeed {a b c e g : Int32} (hd : 1 ≤ d) (hD : mD o ad) (hI : mInv R I C t F V X) (hq : ∀ R' I' C', mInv R' I' C' (s_feed t [a, b, c, e, g]) F V X → Q (some (.int (a_feed t))) (mH h o ad I' C')) : mm_Go E d 108 (mm_blk 108 0) [.ref o, .int a, .int b, .int c, .int e, .int g] [] (mH h o ad I C) Q := by
  have hI0 := hI
  obtain ⟨h1, h2, h3, ⟨t1, t2, t3⟩, h5, h6, h7⟩ := hI
  unfold a_feed s_feed at hq
  repeat (first | refine gi_con ?_ | refine gi_bip (Nat.le_of_ble_eq_true rfl) ?_ | refine gi_sip (Nat.le_of_ble_eq_true rfl) ?_ | refine gi_ldc ?_ | refine gi_add ?_ | refine gi_inc rfl ?_ | refine gi_sub (by omega) ?_ | refine gi_mul ?_ | refine go_nx rfl ?_)
  refine gm_get (.int (nI t.1)) rfl (by rw [← t2]; rfl) ?_
  repeat (first | refine gi_con ?_ | refine gi_bip (Nat.le_of_ble_eq_true rfl) ?_ | refine gi_sip (Nat.le_of_ble_eq_true rfl) ?_ | refine gi_ldc ?_ | refine gi_add ?_ | refine gi_inc rfl ?_ | refine gi_sub (by omega) ?_ | refine gi_mul ?_ | refine go_nx rfl ?_)
  first | refine gb_lt (by omega) (by omega) (fun c1 => ?_) (fun c1 => ?_) | refine gb_ge (by omega) (by omega) (fun c1 => ?_) (fun c1 => ?_) | refine gb_gt (by omega) (by omega) (fun c1 => ?_) (fun c1 => ?_) | refine gb_le (by omega) (by omega) (fun c1 => ?_) (fun c1 => ?_) | refine gb_eq (by omega) (by omega) (fun c1 => ?_) (fun c1 => ?_) | refine gb_ne (by omega) (by omega) (fun c1 => ?_) (fun c1 => ?_)
  · rw [if_neg (by omega), if_neg (by omega)] at hq
    repeat (first | refine gi_con ?_ | refine gi_bip (Nat.le_of_ble_eq_true rfl) ?_ | refine gi_sip (Nat.le_of_ble_eq_true rfl) ?_ | refine gi_ldc ?_ | refine gi_add ?_ | refine gi_inc rfl ?_ | refine gi_sub (by omega) ?_ | refine gi_mul ?_ | refine go_nx rfl ?_)
    refine go_step ?_
    refine g_callV (by decide) (by decide) (Nat.le_of_ble_eq_true rfl) (Nat.le_of_ble_eq_true rfl) mH_rcv (by omega) (Nat.le_of_ble_eq_true rfl) rfl ?_
    refine sp_mput hD h1 (by omega) t2 (fun C1 hC1 hC1' => ?_)
    repeat (first | refine gi_con ?_ | refine gi_bip (Nat.le_of_ble_eq_true rfl) ?_ | refine gi_sip (Nat.le_of_ble_eq_true rfl) ?_ | refine gi_ldc ?_ | refine gi_add ?_ | refine gi_inc rfl ?_ | refine gi_sub (by omega) ?_ | refine gi_mul ?_ | refine go_nx rfl ?_)
    refine go_step ?_
    refine g_callV (by decide) (by decide) (Nat.le_of_ble_eq_true rfl) (Nat.le_of_ble_eq_true rfl) mH_rcv (by omega) (Nat.le_of_ble_eq_true rfl) rfl ?_
    refine sp_mput (T := t.1 + 4) hD hC1 (by omega) (uf_at _ _ _) (fun C2 hC2 hC2' => ?_)
    repeat (first | refine gi_con ?_ | refine gi_bip (Nat.le_of_ble_eq_true rfl) ?_ | refine gi_sip (Nat.le_of_ble_eq_true rfl) ?_ | refine gi_ldc ?_ | refine gi_add ?_ | refine gi_inc rfl ?_ | refine gi_sub (by omega) ?_ | refine gi_mul ?_ | refine go_nx rfl ?_)
    refine go_step ?_
    refine g_callV (by decide) (by decide) (Nat.le_of_ble_eq_true rfl) (Nat.le_of_ble_eq_true rfl) mH_rcv (by omega) (Nat.le_of_ble_eq_true rfl) rfl ?_
    refine sp_mput (T := t.1 + 4 + 4) hD hC2 (by omega) (uf_at _ _ _) (fun C3 hC3 hC3' => ?_)
    repeat (first | refine gi_con ?_ | refine gi_bip (Nat.le_of_ble_eq_true rfl) ?_ | refine gi_sip (Nat.le_of_ble_eq_true rfl) ?_ | refine gi_ldc ?_ | refine gi_add ?_ | refine gi_inc rfl ?_ | refine gi_sub (by omega) ?_ | refine gi_mul ?_ | refine go_nx rfl ?_)
    refine go_step ?_
    refine g_callV (by decide) (by decide) (Nat.le_of_ble_eq_true rfl) (Nat.le_of_ble_eq_true rfl) mH_rcv (by omega) (Nat.le_of_ble_eq_true rfl) rfl ?_
    refine sp_mput (T := t.1 + 4 + 4 + 4) hD hC3 (by omega) (uf_at _ _ _) (fun C4 hC4 hC4' => ?_)
    repeat (first | refine gi_con ?_ | refine gi_bip (Nat.le_of_ble_eq_true rfl) ?_ | refine gi_sip (Nat.le_of_ble_eq_true rfl) ?_ | refine gi_ldc ?_ | refine gi_add ?_ | refine gi_inc rfl ?_ | refine gi_sub (by omega) ?_ | refine gi_mul ?_ | refine go_nx rfl ?_)
    refine go_step ?_
    refine g_callV (by decide) (by decide) (Nat.le_of_ble_eq_true rfl) (Nat.le_of_ble_eq_true rfl) mH_rcv (by omega) (Nat.le_of_ble_eq_true rfl) rfl ?_
    refine sp_mput (T := t.1 + 4 + 4 + 4 + 4) hD hC4 (by omega) (uf_at _ _ _) (fun C5 hC5 hC5' => ?_)
    rw [uf_uf, uf_uf, uf_uf, uf_uf]
    repeat (first | refine gi_con ?_ | refine gi_bip (Nat.le_of_ble_eq_true rfl) ?_ | refine gi_sip (Nat.le_of_ble_eq_true rfl) ?_ | refine gi_ldc ?_ | refine gi_add ?_ | refine gi_inc rfl ?_ | refine gi_sub (by omega) ?_ | refine gi_mul ?_ | refine go_nx rfl ?_)
    refine gm_get (.int (nI (t.1 + 4 + 4 + 4 + 4 + 4))) rfl rfl ?_
    refine go_rt rfl ?_
    refine hq _ _ C5 (mInv_low hI0 (fun j hj => ?_) (fun j => ?_) hC5 (fun j hj => by rw [hC5' j hj, hC4' j hj, hC3' j hj, hC2' j hj, hC1' j hj]) (fun j hj => uf_ne hj) ⟨by show t.1 + 20 ≤ 2000; omega, by rw [uf_at]; rfl, fun j hj => ?_⟩)
    · rw [q_put_lo (by omega), q_put_lo (by omega), q_put_lo (by omega), q_put_lo (by omega), q_put_lo (by omega)]
    · exact q_put_lt (q_put_lt (q_put_lt (q_put_lt (q_put_lt h2)))) j
    · have hj : j < t.1 + 20 := hj
      show _ = if j < t.1 then t.2 j else q_fedb [a, b, c, e, g] (j - t.1)
      by_cases hjt : j < t.1
      · rw [if_pos hjt, q_put_lo (by omega), q_put_lo (by omega), q_put_lo (by omega), q_put_lo (by omega), q_put_lo (by omega)]
        exact t3 j hjt
      · rw [if_neg hjt]
        have hdiv : j = t.1 + 4 * ((j - t.1) / 4) + (j - t.1) % 4 := by omega
        have hmod : (j - t.1) % 4 < 4 := Nat.mod_lt _ (by decide)
        unfold q_fedb
        generalize (j - t.1) % 4 = s at hdiv hmod ⊢
        have hq5 : (j - t.1) / 4 = 0 ∨ (j - t.1) / 4 = 1 ∨ (j - t.1) / 4 = 2 ∨ (j - t.1) / 4 = 3 ∨ (j - t.1) / 4 = 4 := by omega
        rcases hq5 with k | k | k | k | k <;> rw [k] at hdiv ⊢
        · rw [q_put_lo (by omega), q_put_lo (by omega), q_put_lo (by omega), q_put_lo (by omega), show 20000 + j = 20000 + t.1 + s by omega, q_put_at hmod]
          rfl
        · rw [q_put_lo (by omega), q_put_lo (by omega), q_put_lo (by omega), show 20000 + j = 20000 + (t.1 + 4) + s by omega, q_put_at hmod]
          rfl
        · rw [q_put_lo (by omega), q_put_lo (by omega), show 20000 + j = 20000 + (t.1 + 4 + 4) + s by omega, q_put_at hmod]
          rfl
        · rw [q_put_lo (by omega), show 20000 + j = 20000 + (t.1 + 4 + 4 + 4) + s by omega, q_put_at hmod]
          rfl
        · rw [show 20000 + j = 20000 + (t.1 + 4 + 4 + 4 + 4) + s by omega, q_put_at hmod]
          rfl
  · rw [if_pos (by omega), if_pos (by omega)] at hq
    repeat (first | refine gi_con ?_ | refine gi_bip (Nat.le_of_ble_eq_true rfl) ?_ | refine gi_sip (Nat.le_of_ble_eq_true rfl) ?_ | refine gi_ldc ?_ | refine gi_add ?_ | refine gi_inc rfl ?_ | refine gi_sub (by omega) ?_ | refine gi_mul ?_ | refine go_nx rfl ?_)
    refine go_rt rfl ?_
    exact hq R I C hI0
def q_drp (X : Nat → Option qX) (i : Int32) : Bool := if i < 0 ∨ 8 ≤ i then false else (X i.toNatClampNeg).isSome
def s_drop (X : Nat → Option qX) (i : Int32) : Nat → Option qX := if q_drp X i = true then uf X i.toNatClampNeg none else X
theorem sp_mdrop {i : Int32} (hD : mD o ad) (hI : mInv R I C t F V X) (hq : ∀ C', mInv R I C' t F V (s_drop X i) → Q (some (.int (q_t (q_drp X i)))) (mH h o ad I C')) : mm_Go E d 115 (mm_blk 115 0) [.ref o, .int i] [] (mH h o ad I C) Q := by
  have one : q_drp X i = false → mm_Go E d 115 (mm_blk 115 1) [.ref o, .int i] [] (mH h o ad I C) Q := by
    intro e
    unfold s_drop at hq
    rw [e, if_neg (by decide)] at hq
    repeat (first | refine gi_con ?_ | refine gi_bip (Nat.le_of_ble_eq_true rfl) ?_ | refine gi_sip (Nat.le_of_ble_eq_true rfl) ?_ | refine gi_ldc ?_ | refine gi_add ?_ | refine gi_inc rfl ?_ | refine gi_sub (by omega) ?_ | refine gi_mul ?_ | refine go_nx rfl ?_)
    refine go_rt rfl ?_
    exact hq C hI
  repeat (first | refine gi_con ?_ | refine gi_bip (Nat.le_of_ble_eq_true rfl) ?_ | refine gi_sip (Nat.le_of_ble_eq_true rfl) ?_ | refine gi_ldc ?_ | refine gi_add ?_ | refine gi_inc rfl ?_ | refine gi_sub (by omega) ?_ | refine gi_mul ?_ | refine go_nx rfl ?_)
  refine gx_lt (fun c1 => ?_) (fun c1 => ?_)
  · exact one (by unfold q_drp; rw [if_pos (Or.inl c1)])
  repeat (first | refine gi_con ?_ | refine gi_bip (Nat.le_of_ble_eq_true rfl) ?_ | refine gi_sip (Nat.le_of_ble_eq_true rfl) ?_ | refine gi_ldc ?_ | refine gi_add ?_ | refine gi_inc rfl ?_ | refine gi_sub (by omega) ?_ | refine gi_mul ?_ | refine go_nx rfl ?_)
  refine gy_gt (fun c2 => ?_) (fun c2 => ?_)
  · refine one ?_
    unfold q_drp
    by_cases h8 : i < 0 ∨ 8 ≤ i
    · rw [if_pos h8]
    · exfalso
      obtain ⟨k, hk, rfl⟩ := i_lt0 c1 (fun q => h8 (Or.inr q))
      exact absurd ((nI_ltI (a := 7) (by decide) (by omega)).mp c2) (by omega)
  obtain ⟨k, hk, rfl⟩ : ∃ k, k < 8 ∧ i = nI k := by
    rcases pk_ix i (n := 8) (by decide) with q | q | ⟨j, hj, rfl⟩
    · exact absurd q c1
    · refine absurd ?_ c2
      have h3 : nI 7 < nI 8 := by decide
      exact Int32.lt_of_lt_of_le h3 q
    · exact ⟨j, hj, rfl⟩
  have e8 : ¬ (nI k < 0 ∨ 8 ≤ nI k) := fun q => q.elim (nI_pos (by omega)) (nI_ge hk (by decide))
  have hdr : q_drp X (nI k) = (X k).isSome := by
    unfold q_drp
    rw [if_neg e8, nI_clamp (by omega)]
  have hI0 := hI
  obtain ⟨h1, h2, ⟨S, hS⟩, h4, h5, h6, h7⟩ := hI
  obtain ⟨e1, e2⟩ := h7 k hk
  repeat (first | refine gi_con ?_ | refine gi_bip (Nat.le_of_ble_eq_true rfl) ?_ | refine gi_sip (Nat.le_of_ble_eq_true rfl) ?_ | refine gi_ldc ?_ | refine gi_add ?_ | refine gi_inc rfl ?_ | refine gi_sub (by omega) ?_ | refine gi_mul ?_ | refine go_nx rfl ?_)
  refine gm_get (.ref (ad 5)) rfl rfl ?_
  repeat (first | refine gi_con ?_ | refine gi_bip (Nat.le_of_ble_eq_true rfl) ?_ | refine gi_sip (Nat.le_of_ble_eq_true rfl) ?_ | refine gi_ldc ?_ | refine gi_add ?_ | refine gi_inc rfl ?_ | refine gi_sub (by omega) ?_ | refine gi_mul ?_ | refine go_nx rfl ?_)
  refine gm_bld hD (by decide) (Or.inr rfl) (show k < 8 from hk) (by decide) ?_
  rw [e1]
  first | refine gt_eq (fun c3 => ?_) (fun c3 => ?_) | refine gt_ne (fun c3 => ?_) (fun c3 => ?_)
  · unfold s_drop at hq
    rw [hdr, c3, if_pos rfl, nI_clamp (by omega)] at hq
    repeat (first | refine gi_con ?_ | refine gi_bip (Nat.le_of_ble_eq_true rfl) ?_ | refine gi_sip (Nat.le_of_ble_eq_true rfl) ?_ | refine gi_ldc ?_ | refine gi_add ?_ | refine gi_inc rfl ?_ | refine gi_sub (by omega) ?_ | refine gi_mul ?_ | refine go_nx rfl ?_)
    refine gm_get (.ref (ad 5)) rfl rfl ?_
    repeat (first | refine gi_con ?_ | refine gi_bip (Nat.le_of_ble_eq_true rfl) ?_ | refine gi_sip (Nat.le_of_ble_eq_true rfl) ?_ | refine gi_ldc ?_ | refine gi_add ?_ | refine gi_inc rfl ?_ | refine gi_sub (by omega) ?_ | refine gi_mul ?_ | refine go_nx rfl ?_)
    refine gm_bst hD (by decide) (Or.inr rfl) (show k < 8 from hk) (by decide) ?_
    repeat (first | refine gi_con ?_ | refine gi_bip (Nat.le_of_ble_eq_true rfl) ?_ | refine gi_sip (Nat.le_of_ble_eq_true rfl) ?_ | refine gi_ldc ?_ | refine gi_add ?_ | refine gi_inc rfl ?_ | refine gi_sub (by omega) ?_ | refine gi_mul ?_ | refine go_nx rfl ?_)
    refine go_rt rfl ?_
    refine hq _ ⟨fun j hj => by rw [uf_ne (by decide)]; exact h1 j hj, h2, ⟨S, fun r hr => by rw [uf_ne (by decide), uf_ne (by decide)]; exact hS r hr⟩, h4, h5, h6, fun i hi => ?_⟩
    unfold mIx
    rw [uf_at, uf_ne (show (6 : Nat) ≠ 5 by decide), uf_ne (show (7 : Nat) ≠ 5 by decide), uf_ne (show (8 : Nat) ≠ 5 by decide)]
    by_cases hik : i = k
    · subst hik
      rw [uf_at, uf_at]
      exact ⟨by decide, fun y hy => by cases hy⟩
    · rw [uf_ne hik, uf_ne hik]
      exact h7 i hi
  · refine go_jp rfl ?_
    exact one (by rw [hdr]; exact c3)
end M
