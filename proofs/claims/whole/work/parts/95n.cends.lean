/-! THE CLASS: ends and intervals -/
def eCell (N O : Nat → Nat) (x : qE) : mmC := .inr (6, [.int (nI x.1), if x.2.1 = 1 then .ref (N x.2.2.2) else .null, .int (nI x.2.2.1), .int (nI (eLo O x)), .int (nI (eHi O x))])
def iAt (h : mmH) (N O : Nat → Nat) (a : Nat) (r : qR) : Prop := ∃ lo hi, h.2.2 a = some (.inr (7, [.ref lo, .ref hi])) ∧ h.2.2 lo = some (eCell N O r.1) ∧ h.2.2 hi = some (eCell N O r.2)
/-- the intervals of a list -/
def bR (h : mmH) (N O : Nat → Nat) (l : List Nat) (R : List qR) : Prop := l.length = R.length ∧ ∀ k, k < R.length → iAt h N O (l.getD k 0) (R.getD k q_r0)
theorem fit_b {i : Nat} (hi : i ≤ 1) : mm_fit 1 (.int (nI i)) = true := by
  rcases (show i = 0 ∨ i = 1 by omega) with q | q <;> subst q <;> rfl
theorem fit_t (b : Bool) : mm_fit 1 (.int (q_t b)) = true := by cases b <;> rfl
section C
variable {E : mmE} {d : Nat} {h h' : mmH} {Q : Option Value → mmH → Prop} {N O : Nat → Nat} {own own' : Nat → Nat} {M : Nat → Prop}
theorem iAt_s (hs : ∀ b ci fs, h.2.2 b = some (.inr (ci, fs)) → ci = 6 ∨ ci = 7 → h'.2.2 b = h.2.2 b) {a : Nat} {r : qR} (ha : iAt h N O a r) : iAt h' N O a r := by
  obtain ⟨lo, hi, h1, h2, h3⟩ := ha
  exact ⟨lo, hi, by rw [hs _ _ _ h1 (Or.inr rfl)]; exact h1, by rw [hs _ _ _ h2 (Or.inl rfl)]; exact h2, by rw [hs _ _ _ h3 (Or.inl rfl)]; exact h3⟩
theorem lFr_67 (h1 : lFr h h' own own' M) (hk : hOk E h) : ∀ b ci fs, h.2.2 b = some (.inr (ci, fs)) → ci = 6 ∨ ci = 7 → h'.2.2 b = h.2.2 b := fun b ci fs hb hc => lFr_obj h1 hk hb (by rcases hc with q | q <;> rw [q] <;> decide)
theorem iAt_fr (h1 : lFr h h' own own' M) (hk : hOk E h) {a : Nat} {r : qR} (ha : iAt h N O a r) : iAt h' N O a r := iAt_s (lFr_67 h1 hk) ha
theorem bR_fr (h1 : lFr h h' own own' M) (hk : hOk E h) {l : List Nat} {R : List qR} (ha : bR h N O l R) : bR h' N O l R := ⟨ha.1, fun k hk' => iAt_fr h1 hk (ha.2 k hk')⟩
theorem bR_nil : bR h N O [] [] := ⟨rfl, fun k hk => absurd hk (Nat.not_lt_zero _)⟩
theorem bR_app {l : List Nat} {R : List qR} {x : Nat} {r : qR} (ha : bR h N O l R) (hx : iAt h N O x r) : bR h N O (l ++ [x]) (R ++ [r]) := by
  have e := ha.1
  refine ⟨by rw [List.length_append, List.length_append, e]; rfl, fun k hk => ?_⟩
  rw [List.length_append] at hk
  have hk : k < R.length + 1 := hk
  by_cases h1 : k < R.length
  · rw [List.getD_eq_getElem?_getD, List.getElem?_append_left (by omega), ← List.getD_eq_getElem?_getD, List.getD_eq_getElem?_getD (l := R ++ [r]), List.getElem?_append_left h1, ← List.getD_eq_getElem?_getD]
    exact ha.2 k h1
  · have h2 : k = R.length := by omega
    subst h2
    rw [List.getD_eq_getElem?_getD, List.getElem?_append_right (by omega), List.getD_eq_getElem?_getD (l := R ++ [r]), List.getElem?_append_right (Nat.le_refl _), e, Nat.sub_self]
    exact hx
theorem bR_cell {l : List Nat} {R : List qR} (ha : bR h N O l R) : ∀ x ∈ l, ∃ fs, h.2.2 x = some (.inr (7, fs)) := by
  intro x hx
  obtain ⟨i, hi, e⟩ := mem_getD hx
  obtain ⟨lo, hi', h1, -⟩ := ha.2 i (by rw [← ha.1]; exact hi)
  rw [e] at h1
  exact ⟨_, h1⟩
theorem sp_endN {a nd c o i : Nat} {fs : List Value} (hn : h.2.2 nd = some (.inr (4, fs))) (h5 : fs[5]? = some (.int (nI c))) (h11 : fs[11]? = some (.int (nI o))) (ha : h.2.2 a = some (.inr (6, [.int 0, .null, .int 0, .int 0, .int 0]))) (hi : i ≤ 1)
    (hq : Q none (mm_set h a (.inr (6, [.int (nI c), .ref nd, .int (nI i), .int (nI (2 * (4096 * c + (1 + o)) + (1 - i))), .int (nI (2 * (4096 * c + (1 + o)) + i))])))) : mm_Go E d 80 (mm_blk 80 0) [.ref a, .ref nd, .int (nI i), mm_un] [] h Q := by
  have hna : nd ≠ a := fun q => by rw [q, ha] at hn; cases hn
  have hn2 : ∀ x, (mm_set h a x).2.2 nd = some (.inr (4, fs)) := fun x => by rw [hs_ne hna]; exact hn
  repeat (first | refine gi_con ?_ | refine gi_bip (Nat.le_of_ble_eq_true rfl) ?_ | refine gi_sip (Nat.le_of_ble_eq_true rfl) ?_ | refine gi_ldc ?_ | refine gi_add ?_ | refine gi_inc rfl ?_ | refine gi_sub (by omega) ?_ | refine gi_mul ?_ | refine go_nx rfl ?_)
  refine gf_get _ hn (by decide) h5 ?_
  repeat (first | refine gi_con ?_ | refine gi_bip (Nat.le_of_ble_eq_true rfl) ?_ | refine gi_sip (Nat.le_of_ble_eq_true rfl) ?_ | refine gi_ldc ?_ | refine gi_add ?_ | refine gi_inc rfl ?_ | refine gi_sub (by omega) ?_ | refine gi_mul ?_ | refine go_nx rfl ?_)
  refine gf_get _ hn (by decide) h11 ?_
  repeat (first | refine gi_con ?_ | refine gi_bip (Nat.le_of_ble_eq_true rfl) ?_ | refine gi_sip (Nat.le_of_ble_eq_true rfl) ?_ | refine gi_ldc ?_ | refine gi_add ?_ | refine gi_inc rfl ?_ | refine gi_sub (by omega) ?_ | refine gi_mul ?_ | refine go_nx rfl ?_)
  refine gf_get _ hn (by decide) h5 ?_
  repeat (first | refine gi_con ?_ | refine gi_bip (Nat.le_of_ble_eq_true rfl) ?_ | refine gi_sip (Nat.le_of_ble_eq_true rfl) ?_ | refine gi_ldc ?_ | refine gi_add ?_ | refine gi_inc rfl ?_ | refine gi_sub (by omega) ?_ | refine gi_mul ?_ | refine go_nx rfl ?_)
  refine gc_put (fs' := [.int (nI c), .null, .int 0, .int 0, .int 0]) ha rfl (Nat.le_of_ble_eq_true rfl) rfl rfl ?_
  repeat (first | refine gi_con ?_ | refine gi_bip (Nat.le_of_ble_eq_true rfl) ?_ | refine gi_sip (Nat.le_of_ble_eq_true rfl) ?_ | refine gi_ldc ?_ | refine gi_add ?_ | refine gi_inc rfl ?_ | refine gi_sub (by omega) ?_ | refine gi_mul ?_ | refine go_nx rfl ?_)
  refine gc_put (fs' := [.int (nI c), .ref nd, .int 0, .int 0, .int 0]) hs_at rfl (Nat.le_of_ble_eq_true rfl) rfl rfl ?_
  rw [hs_set]
  repeat (first | refine gi_con ?_ | refine gi_bip (Nat.le_of_ble_eq_true rfl) ?_ | refine gi_sip (Nat.le_of_ble_eq_true rfl) ?_ | refine gi_ldc ?_ | refine gi_add ?_ | refine gi_inc rfl ?_ | refine gi_sub (by omega) ?_ | refine gi_mul ?_ | refine go_nx rfl ?_)
  refine gc_put (fs' := [.int (nI c), .ref nd, .int (nI i), .int 0, .int 0]) hs_at rfl (Nat.le_of_ble_eq_true rfl) (fit_b hi) rfl ?_
  rw [hs_set]
  have e1 : c * 4096 + 1 + o = 4096 * c + (1 + o) := by omega
  rw [e1]
  have four : mm_Go E d 80 (mm_blk 80 4) [.ref a, .ref nd, .int (nI i), .int (nI (4096 * c + (1 + o)))] [.int (nI i), .int (nI (2 * (4096 * c + (1 + o)))), .ref a] (mm_set h a (.inr (6, [.int (nI c), .ref nd, .int (nI i), .int (nI (2 * (4096 * c + (1 + o)) + (1 - i))), .int 0]))) Q := by
    repeat (first | refine gi_con ?_ | refine gi_bip (Nat.le_of_ble_eq_true rfl) ?_ | refine gi_sip (Nat.le_of_ble_eq_true rfl) ?_ | refine gi_ldc ?_ | refine gi_add ?_ | refine gi_inc rfl ?_ | refine gi_sub (by omega) ?_ | refine gi_mul ?_ | refine go_nx rfl ?_)
    refine gc_put (fs' := [.int (nI c), .ref nd, .int (nI i), .int (nI (2 * (4096 * c + (1 + o)) + (1 - i))), .int (nI (2 * (4096 * c + (1 + o)) + i))]) hs_at rfl (Nat.le_of_ble_eq_true rfl) rfl rfl ?_
    rw [hs_set]
    refine go_rt rfl ?_
    exact hq
  have two : mm_Go E d 80 (mm_blk 80 2) [.ref a, .ref nd, .int (nI i), .int (nI (4096 * c + (1 + o)))] [.int (nI (1 - i)), .int (nI (2 * (4096 * c + (1 + o)))), .ref a] (mm_set h a (.inr (6, [.int (nI c), .ref nd, .int (nI i), .int 0, .int 0]))) Q := by
    repeat (first | refine gi_con ?_ | refine gi_bip (Nat.le_of_ble_eq_true rfl) ?_ | refine gi_sip (Nat.le_of_ble_eq_true rfl) ?_ | refine gi_ldc ?_ | refine gi_add ?_ | refine gi_inc rfl ?_ | refine gi_sub (by omega) ?_ | refine gi_mul ?_ | refine go_nx rfl ?_)
    refine gc_put (fs' := [.int (nI c), .ref nd, .int (nI i), .int (nI (2 * (4096 * c + (1 + o)) + (1 - i))), .int 0]) hs_at rfl (Nat.le_of_ble_eq_true rfl) rfl rfl ?_
    rw [hs_set]
    repeat (first | refine gi_con ?_ | refine gi_bip (Nat.le_of_ble_eq_true rfl) ?_ | refine gi_sip (Nat.le_of_ble_eq_true rfl) ?_ | refine gi_ldc ?_ | refine gi_add ?_ | refine gi_inc rfl ?_ | refine gi_sub (by omega) ?_ | refine gi_mul ?_ | refine go_nx rfl ?_)
    first | refine gz_eq (by omega) (fun c1 => ?_) (fun c1 => ?_) | refine gz_ne (by omega) (fun c1 => ?_) (fun c1 => ?_) | refine gz_le (by omega) (fun c1 => ?_) (fun c1 => ?_) | refine gz_gt (by omega) (fun c1 => ?_) (fun c1 => ?_) | refine gz_lt (by omega) (fun c1 => ?_) (fun c1 => ?_) | refine gz_ge (by omega) (fun c1 => ?_) (fun c1 => ?_)
    · rw [c1] at four
      rw [c1]
      repeat (first | refine gi_con ?_ | refine gi_bip (Nat.le_of_ble_eq_true rfl) ?_ | refine gi_sip (Nat.le_of_ble_eq_true rfl) ?_ | refine gi_ldc ?_ | refine gi_add ?_ | refine gi_inc rfl ?_ | refine gi_sub (by omega) ?_ | refine gi_mul ?_ | refine go_nx rfl ?_)
      refine go_jp rfl ?_
      exact four
    · have h1 : i = 1 := by omega
      rw [h1] at four
      rw [h1]
      repeat (first | refine gi_con ?_ | refine gi_bip (Nat.le_of_ble_eq_true rfl) ?_ | refine gi_sip (Nat.le_of_ble_eq_true rfl) ?_ | refine gi_ldc ?_ | refine gi_add ?_ | refine gi_inc rfl ?_ | refine gi_sub (by omega) ?_ | refine gi_mul ?_ | refine go_nx rfl ?_)
      refine go_jp rfl ?_
      exact four
  repeat (first | refine gi_con ?_ | refine gi_bip (Nat.le_of_ble_eq_true rfl) ?_ | refine gi_sip (Nat.le_of_ble_eq_true rfl) ?_ | refine gi_ldc ?_ | refine gi_add ?_ | refine gi_inc rfl ?_ | refine gi_sub (by omega) ?_ | refine gi_mul ?_ | refine go_nx rfl ?_)
  first | refine gz_eq (by omega) (fun c1 => ?_) (fun c1 => ?_) | refine gz_ne (by omega) (fun c1 => ?_) (fun c1 => ?_) | refine gz_le (by omega) (fun c1 => ?_) (fun c1 => ?_) | refine gz_gt (by omega) (fun c1 => ?_) (fun c1 => ?_) | refine gz_lt (by omega) (fun c1 => ?_) (fun c1 => ?_) | refine gz_ge (by omega) (fun c1 => ?_) (fun c1 => ?_)
  · rw [c1] at two
    rw [c1]
    repeat (first | refine gi_con ?_ | refine gi_bip (Nat.le_of_ble_eq_true rfl) ?_ | refine gi_sip (Nat.le_of_ble_eq_true rfl) ?_ | refine gi_ldc ?_ | refine gi_add ?_ | refine gi_inc rfl ?_ | refine gi_sub (by omega) ?_ | refine gi_mul ?_ | refine go_nx rfl ?_)
    refine go_jp rfl ?_
    exact two
  · have h1 : i = 1 := by omega
    rw [h1] at two
    rw [h1]
    repeat (first | refine gi_con ?_ | refine gi_bip (Nat.le_of_ble_eq_true rfl) ?_ | refine gi_sip (Nat.le_of_ble_eq_true rfl) ?_ | refine gi_ldc ?_ | refine gi_add ?_ | refine gi_inc rfl ?_ | refine gi_sub (by omega) ?_ | refine gi_mul ?_ | refine go_nx rfl ?_)
    refine go_jp rfl ?_
    exact two
theorem sp_endC {a c hi : Nat} (ha : h.2.2 a = some (.inr (6, [.int 0, .null, .int 0, .int 0, .int 0]))) (hhi : hi ≤ 1)
    (hq : Q none (mm_set h a (.inr (6, [.int (nI c), .null, .int (nI 0), .int (nI (2 * (4096 * c + 4095 * hi) + 1)), .int (nI (2 * (4096 * c + 4095 * hi)))])))) : mm_Go E d 84 (mm_blk 84 0) [.ref a, .int (nI c), .int (nI hi), mm_un] [] h Q := by
  have two : mm_Go E d 84 (mm_blk 84 2) [.ref a, .int (nI c), .int (nI hi), mm_un] [.int (nI (4095 * hi)), .int (nI (c * 4096))] h Q := by
    repeat (first | refine gi_con ?_ | refine gi_bip (Nat.le_of_ble_eq_true rfl) ?_ | refine gi_sip (Nat.le_of_ble_eq_true rfl) ?_ | refine gi_ldc ?_ | refine gi_add ?_ | refine gi_inc rfl ?_ | refine gi_sub (by omega) ?_ | refine gi_mul ?_ | refine go_nx rfl ?_)
    rw [show c * 4096 + 4095 * hi = 4096 * c + 4095 * hi by omega]
    refine gc_put (fs' := [.int (nI c), .null, .int 0, .int 0, .int 0]) ha rfl (Nat.le_of_ble_eq_true rfl) rfl rfl ?_
    repeat (first | refine gi_con ?_ | refine gi_bip (Nat.le_of_ble_eq_true rfl) ?_ | refine gi_sip (Nat.le_of_ble_eq_true rfl) ?_ | refine gi_ldc ?_ | refine gi_add ?_ | refine gi_inc rfl ?_ | refine gi_sub (by omega) ?_ | refine gi_mul ?_ | refine go_nx rfl ?_)
    refine gc_put (fs' := [.int (nI c), .null, .int 0, .int 0, .int 0]) hs_at rfl (Nat.le_of_ble_eq_true rfl) rfl rfl ?_
    rw [hs_set]
    repeat (first | refine gi_con ?_ | refine gi_bip (Nat.le_of_ble_eq_true rfl) ?_ | refine gi_sip (Nat.le_of_ble_eq_true rfl) ?_ | refine gi_ldc ?_ | refine gi_add ?_ | refine gi_inc rfl ?_ | refine gi_sub (by omega) ?_ | refine gi_mul ?_ | refine go_nx rfl ?_)
    refine gc_put (fs' := [.int (nI c), .null, .int (nI 0), .int 0, .int 0]) hs_at rfl (Nat.le_of_ble_eq_true rfl) rfl rfl ?_
    rw [hs_set]
    repeat (first | refine gi_con ?_ | refine gi_bip (Nat.le_of_ble_eq_true rfl) ?_ | refine gi_sip (Nat.le_of_ble_eq_true rfl) ?_ | refine gi_ldc ?_ | refine gi_add ?_ | refine gi_inc rfl ?_ | refine gi_sub (by omega) ?_ | refine gi_mul ?_ | refine go_nx rfl ?_)
    refine gc_put (fs' := [.int (nI c), .null, .int (nI 0), .int (nI (2 * (4096 * c + 4095 * hi) + 1)), .int 0]) hs_at rfl (Nat.le_of_ble_eq_true rfl) rfl rfl ?_
    rw [hs_set]
    repeat (first | refine gi_con ?_ | refine gi_bip (Nat.le_of_ble_eq_true rfl) ?_ | refine gi_sip (Nat.le_of_ble_eq_true rfl) ?_ | refine gi_ldc ?_ | refine gi_add ?_ | refine gi_inc rfl ?_ | refine gi_sub (by omega) ?_ | refine gi_mul ?_ | refine go_nx rfl ?_)
    refine gc_put (fs' := [.int (nI c), .null, .int (nI 0), .int (nI (2 * (4096 * c + 4095 * hi) + 1)), .int (nI (2 * (4096 * c + 4095 * hi)))]) hs_at rfl (Nat.le_of_ble_eq_true rfl) rfl rfl ?_
    rw [hs_set]
    refine go_rt rfl ?_
    exact hq
  repeat (first | refine gi_con ?_ | refine gi_bip (Nat.le_of_ble_eq_true rfl) ?_ | refine gi_sip (Nat.le_of_ble_eq_true rfl) ?_ | refine gi_ldc ?_ | refine gi_add ?_ | refine gi_inc rfl ?_ | refine gi_sub (by omega) ?_ | refine gi_mul ?_ | refine go_nx rfl ?_)
  first | refine gz_eq (by omega) (fun c1 => ?_) (fun c1 => ?_) | refine gz_ne (by omega) (fun c1 => ?_) (fun c1 => ?_) | refine gz_le (by omega) (fun c1 => ?_) (fun c1 => ?_) | refine gz_gt (by omega) (fun c1 => ?_) (fun c1 => ?_) | refine gz_lt (by omega) (fun c1 => ?_) (fun c1 => ?_) | refine gz_ge (by omega) (fun c1 => ?_) (fun c1 => ?_)
  · rw [c1] at two
    rw [c1]
    repeat (first | refine gi_con ?_ | refine gi_bip (Nat.le_of_ble_eq_true rfl) ?_ | refine gi_sip (Nat.le_of_ble_eq_true rfl) ?_ | refine gi_ldc ?_ | refine gi_add ?_ | refine gi_inc rfl ?_ | refine gi_sub (by omega) ?_ | refine gi_mul ?_ | refine go_nx rfl ?_)
    refine go_jp rfl ?_
    exact two
  · have h1 : hi = 1 := by omega
    rw [h1] at two
    rw [h1]
    repeat (first | refine gi_con ?_ | refine gi_bip (Nat.le_of_ble_eq_true rfl) ?_ | refine gi_sip (Nat.le_of_ble_eq_true rfl) ?_ | refine gi_ldc ?_ | refine gi_add ?_ | refine gi_inc rfl ?_ | refine gi_sub (by omega) ?_ | refine gi_mul ?_ | refine go_nx rfl ?_)
    refine go_jp rfl ?_
    exact two
theorem sp_iinit {a lo hi : Nat} (ha : h.2.2 a = some (.inr (7, [.null, .null]))) (hq : Q none (mm_set h a (.inr (7, [.ref lo, .ref hi])))) : mm_Go E d 82 (mm_blk 82 0) [.ref a, .ref lo, .ref hi] [] h Q := by
  repeat (first | refine gi_con ?_ | refine gi_bip (Nat.le_of_ble_eq_true rfl) ?_ | refine gi_sip (Nat.le_of_ble_eq_true rfl) ?_ | refine gi_ldc ?_ | refine gi_add ?_ | refine gi_inc rfl ?_ | refine gi_sub (by omega) ?_ | refine gi_mul ?_ | refine go_nx rfl ?_)
  refine gc_put (fs' := [.ref lo, .null]) ha rfl (Nat.le_of_ble_eq_true rfl) rfl rfl ?_
  repeat (first | refine gi_con ?_ | refine gi_bip (Nat.le_of_ble_eq_true rfl) ?_ | refine gi_sip (Nat.le_of_ble_eq_true rfl) ?_ | refine gi_ldc ?_ | refine gi_add ?_ | refine gi_inc rfl ?_ | refine gi_sub (by omega) ?_ | refine gi_mul ?_ | refine go_nx rfl ?_)
  refine gc_put (fs' := [.ref lo, .ref hi]) hs_at rfl (Nat.le_of_ble_eq_true rfl) rfl rfl ?_
  rw [hs_set]
  refine go_rt rfl ?_
  exact hq
variable {ob : Nat → Nat → Int32} {P : Nat → Prop}
theorem sp_imeet {x y : Nat} {rx ry : qR} (hd : 1 ≤ d) (hO : oIs ob P O) (hx : iAt h N O x rx) (hy : iAt h N O y ry) (okx : rOk P O rx) (oky : rOk P O ry)
    (h0 : q_met ob rx ry = none → Q (some .null) h)
    (h1 : ∀ r, q_met ob rx ry = some r → (∀ z, iAt h N O z r → Q (some (.ref z)) h) ∧ (rNw O rx ry = true → ∀ lo hi, h.2.2 lo = some (eCell N O r.1) → h.2.2 hi = some (eCell N O r.2) → Q (some (.ref h.1)) (mm_new h 2 (.inr (7, [.ref lo, .ref hi]))))) : mm_Go E d 89 (mm_blk 89 0) [.ref x, .ref y, mm_un, mm_un, mm_un] [] h Q := by
  obtain ⟨xl, xh, x1, x2, x3⟩ := hx
  obtain ⟨yl, yh, y1, y2, y3⟩ := hy
  rw [met_is hO okx oky] at h0 h1
  have a1 := eLo_b hO okx.1
  have a2 := eHi_b hO okx.2.1
  have a3 := eLo_b hO oky.1
  have a4 := eHi_b hO oky.2.1
  have c1 := okx.1.1
  have c2 := okx.2.1.1
  have c3 := oky.1.1
  have c4 := oky.2.1.1
  have ml := rM_lo O rx ry
  have mh := rM_hi O rx ry
  have cl : ∀ {a : Nat} {z : qE}, h.2.2 a = some (eCell N O z) → h.2.2 a = some (.inr (6, [.int (nI z.1), if z.2.1 = 1 then .ref (N z.2.2.2) else .null, .int (nI z.2.2.1), .int (nI (eLo O z)), .int (nI (eHi O z))])) := fun q => q
  have four : ∀ lo hi, h.2.2 lo = some (eCell N O (rM O rx ry).1) → h.2.2 hi = some (eCell N O (rM O rx ry).2) → (max (eLo O rx.1) (eLo O ry.1) < min (eHi O rx.2) (eHi O ry.2) → ¬ (lo = xl ∧ hi = xh) → ¬ (lo = yl ∧ hi = yh) → rNw O rx ry = true) → mm_Go E d 89 (mm_blk 89 4) [.ref x, .ref y, .ref lo, mm_un, mm_un] [.ref hi] h Q := by
    intro lo hi g1 g2 g3
    repeat (first | refine gi_con ?_ | refine gi_bip (Nat.le_of_ble_eq_true rfl) ?_ | refine gi_sip (Nat.le_of_ble_eq_true rfl) ?_ | refine gi_ldc ?_ | refine gi_add ?_ | refine gi_inc rfl ?_ | refine gi_sub (by omega) ?_ | refine gi_mul ?_ | refine go_nx rfl ?_)
    refine gf_get _ (cl g1) (by decide) rfl ?_
    repeat (first | refine gi_con ?_ | refine gi_bip (Nat.le_of_ble_eq_true rfl) ?_ | refine gi_sip (Nat.le_of_ble_eq_true rfl) ?_ | refine gi_ldc ?_ | refine gi_add ?_ | refine gi_inc rfl ?_ | refine gi_sub (by omega) ?_ | refine gi_mul ?_ | refine go_nx rfl ?_)
    refine gf_get _ (cl g2) (by decide) rfl ?_
    rw [ml, mh]
    first | refine gb_lt (by omega) (by omega) (fun c5 => ?_) (fun c5 => ?_) | refine gb_ge (by omega) (by omega) (fun c5 => ?_) (fun c5 => ?_) | refine gb_gt (by omega) (by omega) (fun c5 => ?_) (fun c5 => ?_) | refine gb_le (by omega) (by omega) (fun c5 => ?_) (fun c5 => ?_) | refine gb_eq (by omega) (by omega) (fun c5 => ?_) (fun c5 => ?_) | refine gb_ne (by omega) (by omega) (fun c5 => ?_) (fun c5 => ?_)
    rotate_left
    · rw [if_neg (by omega)] at h0
      repeat (first | refine gi_con ?_ | refine gi_bip (Nat.le_of_ble_eq_true rfl) ?_ | refine gi_sip (Nat.le_of_ble_eq_true rfl) ?_ | refine gi_ldc ?_ | refine gi_add ?_ | refine gi_inc rfl ?_ | refine gi_sub (by omega) ?_ | refine gi_mul ?_ | refine go_nx rfl ?_)
      refine go_rt rfl ?_
      exact h0 rfl
    rw [if_pos c5] at h1
    obtain ⟨k1, k2⟩ := h1 _ rfl
    have six : ¬ (lo = xl ∧ hi = xh) → mm_Go E d 89 (mm_blk 89 6) [.ref x, .ref y, .ref lo, .ref hi, mm_un] [] h Q := by
      intro n1
      have seven : ¬ (lo = yl ∧ hi = yh) → mm_Go E d 89 (mm_blk 89 7) [.ref x, .ref y, .ref lo, .ref hi, mm_un] [] h Q := by
        intro n2
        repeat (first | refine gi_con ?_ | refine gi_bip (Nat.le_of_ble_eq_true rfl) ?_ | refine gi_sip (Nat.le_of_ble_eq_true rfl) ?_ | refine gi_ldc ?_ | refine gi_add ?_ | refine gi_inc rfl ?_ | refine gi_sub (by omega) ?_ | refine gi_mul ?_ | refine go_nx rfl ?_)
        refine go_jp rfl ?_
        repeat (first | refine gi_con ?_ | refine gi_bip (Nat.le_of_ble_eq_true rfl) ?_ | refine gi_sip (Nat.le_of_ble_eq_true rfl) ?_ | refine gi_ldc ?_ | refine gi_add ?_ | refine gi_inc rfl ?_ | refine gi_sub (by omega) ?_ | refine gi_mul ?_ | refine go_nx rfl ?_)
        first | refine gz_eq (by omega) (fun c6 => ?_) (fun c6 => ?_) | refine gz_ne (by omega) (fun c6 => ?_) (fun c6 => ?_) | refine gz_le (by omega) (fun c6 => ?_) (fun c6 => ?_) | refine gz_gt (by omega) (fun c6 => ?_) (fun c6 => ?_) | refine gz_lt (by omega) (fun c6 => ?_) (fun c6 => ?_) | refine gz_ge (by omega) (fun c6 => ?_) (fun c6 => ?_)
        rotate_left
        · omega
        refine gc_n7 rfl ?_
        repeat (first | refine gi_con ?_ | refine gi_bip (Nat.le_of_ble_eq_true rfl) ?_ | refine gi_sip (Nat.le_of_ble_eq_true rfl) ?_ | refine gi_ldc ?_ | refine gi_add ?_ | refine gi_inc rfl ?_ | refine gi_sub (by omega) ?_ | refine gi_mul ?_ | refine go_nx rfl ?_)
        refine go_step ?_
        refine g_call (k := 82) rfl (by omega) (Nat.le_of_ble_eq_true rfl) rfl ?_
        refine sp_iinit hn_at ?_
        rw [hn_set]
        repeat (first | refine gi_con ?_ | refine gi_bip (Nat.le_of_ble_eq_true rfl) ?_ | refine gi_sip (Nat.le_of_ble_eq_true rfl) ?_ | refine gi_ldc ?_ | refine gi_add ?_ | refine gi_inc rfl ?_ | refine gi_sub (by omega) ?_ | refine gi_mul ?_ | refine go_nx rfl ?_)
        refine go_jp rfl ?_
        refine go_rt rfl ?_
        exact k2 (g3 c5 n1 n2) lo hi g1 g2
      repeat (first | refine gi_con ?_ | refine gi_bip (Nat.le_of_ble_eq_true rfl) ?_ | refine gi_sip (Nat.le_of_ble_eq_true rfl) ?_ | refine gi_ldc ?_ | refine gi_add ?_ | refine gi_inc rfl ?_ | refine gi_sub (by omega) ?_ | refine gi_mul ?_ | refine go_nx rfl ?_)
      refine gf_get _ y1 (by decide) rfl ?_
      refine gc_acn (fun e => ?_) (fun e => ?_)
      · exact seven (fun q => e q.1)
      repeat (first | refine gi_con ?_ | refine gi_bip (Nat.le_of_ble_eq_true rfl) ?_ | refine gi_sip (Nat.le_of_ble_eq_true rfl) ?_ | refine gi_ldc ?_ | refine gi_add ?_ | refine gi_inc rfl ?_ | refine gi_sub (by omega) ?_ | refine gi_mul ?_ | refine go_nx rfl ?_)
      refine gf_get _ y1 (by decide) rfl ?_
      refine gc_acn (fun e2 => ?_) (fun e2 => ?_)
      · exact seven (fun q => e2 q.2)
      repeat (first | refine gi_con ?_ | refine gi_bip (Nat.le_of_ble_eq_true rfl) ?_ | refine gi_sip (Nat.le_of_ble_eq_true rfl) ?_ | refine gi_ldc ?_ | refine gi_add ?_ | refine gi_inc rfl ?_ | refine gi_sub (by omega) ?_ | refine gi_mul ?_ | refine go_nx rfl ?_)
      refine go_jp rfl ?_
      repeat (first | refine gi_con ?_ | refine gi_bip (Nat.le_of_ble_eq_true rfl) ?_ | refine gi_sip (Nat.le_of_ble_eq_true rfl) ?_ | refine gi_ldc ?_ | refine gi_add ?_ | refine gi_inc rfl ?_ | refine gi_sub (by omega) ?_ | refine gi_mul ?_ | refine go_nx rfl ?_)
      first | refine gz_eq (by omega) (fun c6 => ?_) (fun c6 => ?_) | refine gz_ne (by omega) (fun c6 => ?_) (fun c6 => ?_) | refine gz_le (by omega) (fun c6 => ?_) (fun c6 => ?_) | refine gz_gt (by omega) (fun c6 => ?_) (fun c6 => ?_) | refine gz_lt (by omega) (fun c6 => ?_) (fun c6 => ?_) | refine gz_ge (by omega) (fun c6 => ?_) (fun c6 => ?_)
      · omega
      repeat (first | refine gi_con ?_ | refine gi_bip (Nat.le_of_ble_eq_true rfl) ?_ | refine gi_sip (Nat.le_of_ble_eq_true rfl) ?_ | refine gi_ldc ?_ | refine gi_add ?_ | refine gi_inc rfl ?_ | refine gi_sub (by omega) ?_ | refine gi_mul ?_ | refine go_nx rfl ?_)
      refine go_jp rfl ?_
      refine go_rt rfl ?_
      refine k1 y ⟨lo, hi, ?_, g1, g2⟩
      rw [e, e2]
      exact y1
    repeat (first | refine gi_con ?_ | refine gi_bip (Nat.le_of_ble_eq_true rfl) ?_ | refine gi_sip (Nat.le_of_ble_eq_true rfl) ?_ | refine gi_ldc ?_ | refine gi_add ?_ | refine gi_inc rfl ?_ | refine gi_sub (by omega) ?_ | refine gi_mul ?_ | refine go_nx rfl ?_)
    refine gf_get _ x1 (by decide) rfl ?_
    refine gc_acn (fun e => ?_) (fun e => ?_)
    · exact six (fun q => e q.1)
    repeat (first | refine gi_con ?_ | refine gi_bip (Nat.le_of_ble_eq_true rfl) ?_ | refine gi_sip (Nat.le_of_ble_eq_true rfl) ?_ | refine gi_ldc ?_ | refine gi_add ?_ | refine gi_inc rfl ?_ | refine gi_sub (by omega) ?_ | refine gi_mul ?_ | refine go_nx rfl ?_)
    refine gf_get _ x1 (by decide) rfl ?_
    refine gc_acn (fun e2 => ?_) (fun e2 => ?_)
    · exact six (fun q => e2 q.2)
    repeat (first | refine gi_con ?_ | refine gi_bip (Nat.le_of_ble_eq_true rfl) ?_ | refine gi_sip (Nat.le_of_ble_eq_true rfl) ?_ | refine gi_ldc ?_ | refine gi_add ?_ | refine gi_inc rfl ?_ | refine gi_sub (by omega) ?_ | refine gi_mul ?_ | refine go_nx rfl ?_)
    refine go_rt rfl ?_
    refine k1 x ⟨lo, hi, ?_, g1, g2⟩
    rw [e, e2]
    exact x1
  have two : ∀ lo, h.2.2 lo = some (eCell N O (rM O rx ry).1) → (lo = xl ∧ eLo O ry.1 ≤ eLo O rx.1 ∨ lo = yl ∧ eLo O rx.1 < eLo O ry.1) → mm_Go E d 89 (mm_blk 89 2) [.ref x, .ref y, mm_un, mm_un, mm_un] [.ref lo] h Q := by
    intro lo g1 g2
    repeat (first | refine gi_con ?_ | refine gi_bip (Nat.le_of_ble_eq_true rfl) ?_ | refine gi_sip (Nat.le_of_ble_eq_true rfl) ?_ | refine gi_ldc ?_ | refine gi_add ?_ | refine gi_inc rfl ?_ | refine gi_sub (by omega) ?_ | refine gi_mul ?_ | refine go_nx rfl ?_)
    refine gf_get _ y1 (by decide) rfl ?_
    refine gf_get _ (cl y3) (by decide) rfl ?_
    repeat (first | refine gi_con ?_ | refine gi_bip (Nat.le_of_ble_eq_true rfl) ?_ | refine gi_sip (Nat.le_of_ble_eq_true rfl) ?_ | refine gi_ldc ?_ | refine gi_add ?_ | refine gi_inc rfl ?_ | refine gi_sub (by omega) ?_ | refine gi_mul ?_ | refine go_nx rfl ?_)
    refine gf_get _ x1 (by decide) rfl ?_
    refine gf_get _ (cl x3) (by decide) rfl ?_
    first | refine gb_lt (by omega) (by omega) (fun c5 => ?_) (fun c5 => ?_) | refine gb_ge (by omega) (by omega) (fun c5 => ?_) (fun c5 => ?_) | refine gb_gt (by omega) (by omega) (fun c5 => ?_) (fun c5 => ?_) | refine gb_le (by omega) (by omega) (fun c5 => ?_) (fun c5 => ?_) | refine gb_eq (by omega) (by omega) (fun c5 => ?_) (fun c5 => ?_) | refine gb_ne (by omega) (by omega) (fun c5 => ?_) (fun c5 => ?_)
    · repeat (first | refine gi_con ?_ | refine gi_bip (Nat.le_of_ble_eq_true rfl) ?_ | refine gi_sip (Nat.le_of_ble_eq_true rfl) ?_ | refine gi_ldc ?_ | refine gi_add ?_ | refine gi_inc rfl ?_ | refine gi_sub (by omega) ?_ | refine gi_mul ?_ | refine go_nx rfl ?_)
      refine gf_get _ x1 (by decide) rfl ?_
      refine go_jp rfl ?_
      refine four lo xh g1 ?_ (fun q n1 n2 => ?_)
      · rw [show (rM O rx ry).2 = rx.2 from if_neg (by omega)]
        exact x3
      · rcases g2 with ⟨e, g2⟩ | ⟨e, g2⟩
        · exact absurd ⟨e, rfl⟩ n1
        · unfold rNw rC
          rw [decide_eq_true g2, decide_eq_true (show eLo O ry.1 < eHi O rx.2 by omega), Bool.and_true, Bool.or_true]
    · repeat (first | refine gi_con ?_ | refine gi_bip (Nat.le_of_ble_eq_true rfl) ?_ | refine gi_sip (Nat.le_of_ble_eq_true rfl) ?_ | refine gi_ldc ?_ | refine gi_add ?_ | refine gi_inc rfl ?_ | refine gi_sub (by omega) ?_ | refine gi_mul ?_ | refine go_nx rfl ?_)
      refine gf_get _ y1 (by decide) rfl ?_
      refine go_jp rfl ?_
      refine four lo yh g1 ?_ (fun q n1 n2 => ?_)
      · rw [show (rM O rx ry).2 = ry.2 from if_pos (by omega)]
        exact y3
      · rcases g2 with ⟨e, g2⟩ | ⟨e, g2⟩
        · unfold rNw rA
          rw [decide_eq_true (show eLo O rx.1 < eHi O ry.2 by omega), decide_eq_true (show eHi O ry.2 < eHi O rx.2 by omega)]
          rfl
        · exact absurd ⟨e, rfl⟩ n2
  repeat (first | refine gi_con ?_ | refine gi_bip (Nat.le_of_ble_eq_true rfl) ?_ | refine gi_sip (Nat.le_of_ble_eq_true rfl) ?_ | refine gi_ldc ?_ | refine gi_add ?_ | refine gi_inc rfl ?_ | refine gi_sub (by omega) ?_ | refine gi_mul ?_ | refine go_nx rfl ?_)
  refine gf_get _ y1 (by decide) rfl ?_
  refine gf_get _ (cl y2) (by decide) rfl ?_
  repeat (first | refine gi_con ?_ | refine gi_bip (Nat.le_of_ble_eq_true rfl) ?_ | refine gi_sip (Nat.le_of_ble_eq_true rfl) ?_ | refine gi_ldc ?_ | refine gi_add ?_ | refine gi_inc rfl ?_ | refine gi_sub (by omega) ?_ | refine gi_mul ?_ | refine go_nx rfl ?_)
  refine gf_get _ x1 (by decide) rfl ?_
  refine gf_get _ (cl x2) (by decide) rfl ?_
  first | refine gb_lt (by omega) (by omega) (fun c5 => ?_) (fun c5 => ?_) | refine gb_ge (by omega) (by omega) (fun c5 => ?_) (fun c5 => ?_) | refine gb_gt (by omega) (by omega) (fun c5 => ?_) (fun c5 => ?_) | refine gb_le (by omega) (by omega) (fun c5 => ?_) (fun c5 => ?_) | refine gb_eq (by omega) (by omega) (fun c5 => ?_) (fun c5 => ?_) | refine gb_ne (by omega) (by omega) (fun c5 => ?_) (fun c5 => ?_)
  · repeat (first | refine gi_con ?_ | refine gi_bip (Nat.le_of_ble_eq_true rfl) ?_ | refine gi_sip (Nat.le_of_ble_eq_true rfl) ?_ | refine gi_ldc ?_ | refine gi_add ?_ | refine gi_inc rfl ?_ | refine gi_sub (by omega) ?_ | refine gi_mul ?_ | refine go_nx rfl ?_)
    refine gf_get _ x1 (by decide) rfl ?_
    refine go_jp rfl ?_
    refine two xl ?_ (Or.inl ⟨rfl, by omega⟩)
    rw [show (rM O rx ry).1 = rx.1 from if_neg (by omega)]
    exact x2
  · repeat (first | refine gi_con ?_ | refine gi_bip (Nat.le_of_ble_eq_true rfl) ?_ | refine gi_sip (Nat.le_of_ble_eq_true rfl) ?_ | refine gi_ldc ?_ | refine gi_add ?_ | refine gi_inc rfl ?_ | refine gi_sub (by omega) ?_ | refine gi_mul ?_ | refine go_nx rfl ?_)
    refine gf_get _ y1 (by decide) rfl ?_
    refine go_jp rfl ?_
    refine two yl ?_ (Or.inr ⟨rfl, by omega⟩)
    rw [show (rM O rx ry).1 = ry.1 from if_pos (by omega)]
    exact y2
end C
