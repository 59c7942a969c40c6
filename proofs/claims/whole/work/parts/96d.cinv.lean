/-! THE CLASS: its state -/
/-- the tape, the planner itself, its paths may change: all else stays -/
def kFr (h h' : mmH) (own own' : Nat → Nat) (ta : Nat) : Prop := h.1 ≤ h'.1 ∧ ∀ b, b < h.1 → own' b = own b ∧ (b ≠ ta → (∀ fs, h.2.2 b ≠ some (.inr (0, fs))) → (∀ fs, h.2.2 b ≠ some (.inr (1, fs))) → (∀ x, h.2.2 b ≠ some (.inl (4, x))) → h'.2.2 b = h.2.2 b)
section C
variable {E : mmE} {d : Nat} {h h' h'' : mmH} {Q : Option Value → mmH → Prop} {B N O : Nat → Nat} {row n : Nat} {own own' own'' : Nat → Nat} {ta : Nat}
theorem kFr_r (h : mmH) (own : Nat → Nat) (ta : Nat) : kFr h h own own ta := ⟨Nat.le_refl _, fun _ _ => ⟨rfl, fun _ _ _ _ => rfl⟩⟩
theorem kFr_t (h1 : kFr h h' own own' ta) (h2 : kFr h' h'' own' own'' ta) : kFr h h'' own own'' ta := by
  refine ⟨Nat.le_trans h1.1 h2.1, fun b hb => ?_⟩
  obtain ⟨a1, a2⟩ := h1.2 b hb
  obtain ⟨b1, b2⟩ := h2.2 b (Nat.lt_of_lt_of_le hb h1.1)
  refine ⟨b1.trans a1, fun c1 c2 c3 c4 => ?_⟩
  have e := a2 c1 c2 c3 c4
  rw [e] at b2
  exact b2 c1 c2 c3 c4
theorem kFr_obj (h1 : kFr h h' own own' ta) (hk : hOk E h) (ht : ∃ x, h.2.2 ta = some (.inl x)) {b ci : Nat} {fs : List Value} (hb : h.2.2 b = some (.inr (ci, fs))) (h0 : ci ≠ 0) (hc1 : ci ≠ 1) : h'.2.2 b = h.2.2 b := by
  refine (h1.2 b (hOk_lt hk hb)).2 (fun q => ?_) (fun fs q => ?_) (fun fs q => ?_) (fun x q => ?_)
  · obtain ⟨x, hx⟩ := ht
    rw [q, hx] at hb
    cases hb
  · rw [hb] at q; cases q; exact h0 rfl
  · rw [hb] at q; cases q; exact hc1 rfl
  · rw [hb] at q; cases q
theorem kFr_arr (h1 : kFr h h' own own' ta) (hk : hOk E h) {b t : Nat} {x : vp_A} (hb : h.2.2 b = some (.inl (t, x))) (ht : t ≠ 4) (hbt : b ≠ ta) : h'.2.2 b = h.2.2 b := by
  refine (h1.2 b (hOk_lt hk hb)).2 hbt (fun fs q => ?_) (fun fs q => ?_) (fun x q => ?_)
  · rw [hb] at q; cases q
  · rw [hb] at q; cases q
  · rw [hb] at q; cases q; exact ht rfl
/-- the tape is a row of bytes -/
def tAt (h : mmH) (ta : Nat) : Prop := ∃ f, h.2.2 ta = some (.inl (0, 2000, .inl f))
theorem tAt_x (ht : tAt h ta) : ∃ x, h.2.2 ta = some (.inl x) := by
  obtain ⟨f, q⟩ := ht
  exact ⟨_, q⟩
theorem gL_k {a cap : Nat} {l : List Nat} (h1 : kFr h h' own own' ta) (hk : hOk E h) (ht : tAt h ta) (ha : gL E h own a cap l) : gL E h' own' a cap l := by
  obtain ⟨ed, ⟨⟨mc, hm⟩, harr, hN⟩, ho⟩ := ha
  have e1 := kFr_obj h1 hk (tAt_x ht) hm (by decide) (by decide)
  rcases harr with ⟨n1, n2, n3⟩ | ⟨n1, n2, f, n3, n4⟩
  · exact ⟨ed, ⟨⟨mc, by rw [e1]; exact hm⟩, Or.inl ⟨n1, n2, n3⟩, hN⟩, Or.inl n1⟩
  · have ho : own ed = a := ho.resolve_left (by omega)
    have hne : ed ≠ ta := fun q => by
      obtain ⟨f, hf⟩ := ht
      rw [q, hf] at n3
      cases n3
    have e2 := kFr_arr h1 hk n3 (by decide) hne
    exact ⟨ed, ⟨⟨mc, by rw [e1]; exact hm⟩, Or.inr ⟨n1, n2, f, by rw [e2]; exact n3, n4⟩, hN⟩, Or.inr ((h1.2 ed (hOk_lt hk n3)).1.trans ho)⟩
theorem bR_k {l : List Nat} {R : List qR} (h1 : kFr h h' own own' ta) (hk : hOk E h) (ht : tAt h ta) (ha : bR h N O l R) : bR h' N O l R := ⟨ha.1, fun k hk' => iAt_s (fun b ci fs hb hc => kFr_obj h1 hk (tAt_x ht) hb (by rcases hc with q | q <;> rw [q] <;> decide) (by rcases hc with q | q <;> rw [q] <;> decide)) (ha.2 k hk')⟩
theorem nB_k {k v : Nat} (h1 : kFr h h' own own' ta) (hk : hOk E h) (ht : tAt h ta) (ha : nBox h row B N O k v) : nBox h' row B N O k v := nBox_sub (fun b c hb => kFr_obj h1 hk (tAt_x ht) hb (by decide) (by decide)) ha
theorem bRow_k (h1 : kFr h h' own own' ta) (hk : hOk E h) (ha : bRow h row n B) (hne : row ≠ ta) : bRow h' row n B := by
  refine bRow_eq ha ?_
  obtain ⟨-, ⟨f, r2, -⟩, -⟩ := ha
  exact kFr_arr h1 hk r2 (by decide) hne
theorem clAt_k {ob : Nat → Nat → Int32} {T c e a o : Nat} {Z : List (Nat × Nat × Nat)} (h1 : kFr h h' own own' ta) (hk : hOk E h) (ht : tAt h ta) (hc : clAt E h own N O ob B T Z c e a o) : clAt E h' own' N O ob B T Z c e a o := by
  obtain ⟨cA, cO, la, lo, RA, RO, q1, q2, q3, q4, q5, q6, q7, q8⟩ := hc
  exact ⟨cA, cO, la, lo, RA, RO, by rw [kFr_obj h1 hk (tAt_x ht) q1 (by decide) (by decide)]; exact q1, gL_k h1 hk ht q2, bR_k h1 hk ht q3, q4, gL_k h1 hk ht q5, bR_k h1 hk ht q6, q7, q8⟩
theorem fDat_k {fa : Nat} (h1 : kFr h h' own own' ta) (hk : hOk E h) (ht : tAt h ta) (hne : row ≠ ta) (hf : fDat E h own fa n B row N O) : fDat E h' own' fa n B row N O := by
  obtain ⟨hrow, hbx, hflt, hO, hx, T, cl, S, g0, g1, cc, cs, hT, fa1, f2, ⟨lsp, f3⟩, f4, lc, es, al, on, a1, a2, a3, a4, a5, a6, a7, a8⟩ := hf
  exact ⟨hrow, hbx, hflt, hO, ⟨bRow_k h1 hk hx.1 hne, nB_k h1 hk ht hx.2⟩, T, cl, S, g0, g1, cc, cs, hT, by rw [kFr_obj h1 hk (tAt_x ht) fa1 (by decide) (by decide)]; exact fa1, f2, ⟨lsp, gL_k h1 hk ht f3⟩, f4, lc, es, al, on, gL_k h1 hk ht a1, a2, a3, a4, fun i hi => ⟨clAt_k h1 hk ht (a5 i hi).1, (a5 i hi).2⟩, a6, a7, a8⟩
theorem kOk_k {p : qP} {v : Value} (h1 : kFr h h' own own' ta) (hk : hOk E h) (ht : tAt h ta) (hv : kOk E h own N O B p v) : kOk E h' own' N O B p v := by
  rcases hv with q | ⟨a, cap, l, R, q1, q2, q3, q4⟩
  · exact Or.inl q
  · exact Or.inr ⟨a, cap, l, R, q1, q2, gL_k h1 hk ht q3, bR_k h1 hk ht q4⟩
/-- the value that is held -/
def vDat (h : mmH) (a row : Nat) (v : qB) : Prop := ∃ N O, q_row v.2 v.1 ∧ q_box (q_u8 v.2) v.2 16 0 v.1 false = true ∧ q_sz v.2 0 = v.1 ∧ 5 < v.1 ∧ bRow h row v.1 v.2 ∧ nBox h row v.2 N O 16 0 ∧ a = N 4
theorem vDat_k {a : Nat} {v : qB} (h1 : kFr h h' own own' ta) (hk : hOk E h) (ht : tAt h ta) (hne : row ≠ ta) (hv : vDat h a row v) : vDat h' a row v := by
  obtain ⟨N, O, a1, a2, a3, a4, a5, a6, a7⟩ := hv
  exact ⟨N, O, a1, a2, a3, a4, bRow_k h1 hk a5 hne, nB_k h1 hk ht a6, a7⟩
/-- a path -/
def pSlot (E : mmE) (h : mmH) (own : Nat → Nat) (pl : Value) (N O B : Nat → Nat) (ta : Nat) (p : qP) (a : Nat) : Prop := ∃ nm seen kept, h.2.2 a = some (pCell p nm seen kept) ∧ bRow h nm p.1.1 p.1.2 ∧ nm ≠ ta ∧ (seen = .null ∨ ∃ s, seen = .ref s ∧ s < h.1) ∧ ∀ fa, pl = .ref fa → seen = .ref fa → kOk E h own N O B p kept
def q_pt2 (X : Nat → Option qX) (i w : Nat) : Option qP := match X i with
  | none => none
  | some x => if w = 0 then some (x.1, q_bit x.2.2 4, q_bit x.2.2 1) else if 0 < x.2.1.1 then some (x.2.1, q_bit x.2.2 8, q_bit x.2.2 2) else none
/-- the class's state: all that is in it -/
def cIx (E : mmE) (h : mmH) (own : Nat → Nat) (o : Nat) (t : qB) (F V : Option qB) (X : Nat → Option qX) (ta pa : Nat) (pl hl : Value) (f : Nat → Int32) (g : Nat → Option Nat) (N O : Nat → Nat) (row : Nat) (B : Nat → Nat) : Prop :=
  cTp h o ta pa t.1 pl hl f ∧ wOk E h own ∧ (t.1 ≤ 2000 ∧ ∀ j, j < t.1 → f j = sb_b (t.2 j) ∧ t.2 j < 256) ∧ h.2.2 pa = some (.inl (4, 16, .inr (.inr (.inr (.inr g))))) ∧
  (F = none → pl = .null) ∧ (∀ b, F = some b → b.2 = B ∧ row ≠ ta ∧ ∃ fa, pl = .ref fa ∧ fDat E h own fa b.1 B row N O) ∧
  (V = none → hl = .null) ∧ (∀ v, V = some v → ∃ a row2, hl = .ref a ∧ row2 ≠ ta ∧ vDat h a row2 v) ∧
  (∀ i w, i < 8 → w < 2 → (q_pt2 X i w = none → g (2 * i + w) = none) ∧ ∀ p, q_pt2 X i w = some p → ∃ a, g (2 * i + w) = some a ∧ pSlot E h own pl N O B ta p a) ∧
  (∀ k k' a, k < 16 → k' < 16 → g k = some a → g k' = some a → k = k')
def cInv (E : mmE) (h : mmH) (own : Nat → Nat) (o : Nat) (t : qB) (F V : Option qB) (X : Nat → Option qX) : Prop := ∃ ta pa pl hl f g N O row B, cIx E h own o t F V X ta pa pl hl f g N O row B
theorem q_pth_2 {X : Nat → Option qX} {i w : Nat} (hi : i < 8) (hw : w < 2) : q_pth X (nI i) (nI w) = q_pt2 X i w := by
  rw [q_pth_at hi]
  unfold q_pt2
  cases X i with
  | none => rfl
  | some x =>
    rcases (show w = 0 ∨ w = 1 by omega) with q | q
    · subst q
      show (if nI 0 = 0 then _ else if nI 0 = 1 ∧ 0 < x.2.1.1 then _ else none) = if (0 : Nat) = 0 then _ else _
      rw [if_pos (show nI 0 = 0 by decide), if_pos (show (0 : Nat) = 0 from rfl)]
    · subst q
      show (if nI 1 = 0 then _ else if nI 1 = 1 ∧ 0 < x.2.1.1 then _ else none) = if (1 : Nat) = 0 then _ else _
      rw [if_neg (show ¬ nI 1 = 0 by decide), if_neg (show ¬ (1 : Nat) = 0 by decide)]
      by_cases h0 : 0 < x.2.1.1
      · rw [if_pos ⟨by decide, h0⟩, if_pos h0]
      · rw [if_neg (fun q => h0 q.2), if_neg h0]
theorem q_pth_n {X : Nat → Option qX} {i w : Int32} (hw : ¬ (w = 0 ∨ w = 1)) : q_pth X i w = none := by
  unfold q_pth
  split
  · rfl
  · split
    · rfl
    · rw [if_neg (fun q => hw (Or.inl q)), if_neg (fun q => hw (Or.inr q.1))]
theorem w_lt0 {i : Int32} (h : ¬ i < 0) (h2 : i < 2) : ∃ k, k < 2 ∧ i = nI k := by
  rcases pk_ix i (n := 2) (by decide) with q | q | ⟨j, hj, rfl⟩
  · exact absurd q h
  · exact absurd h2 (Int32.not_lt.mpr q)
  · exact ⟨j, hj, rfl⟩
variable {o : Nat} {t : qB} {F V : Option qB} {X : Nat → Option qX} {pa : Nat} {pl hl : Value} {f : Nat → Int32} {g : Nat → Option Nat}
theorem sp_pathAt {i w : Int32} (hI : cIx E h own o t F V X ta pa pl hl f g N O row B) (h0 : q_pth X i w = none → Q (some .null) h) (h1 : ∀ p a k ww, q_pth X i w = some p → k < 8 → ww < 2 → i = nI k → w = nI ww → g (2 * k + ww) = some a → pSlot E h own pl N O B ta p a → Q (some (.ref a)) h) : mm_Go E d 18 (mm_blk 18 0) [.ref o, .int i, .int w] [] h Q := by
  obtain ⟨⟨c1, c2⟩, i2, i3, i4, i5, i6, i7, i8, i9, i10⟩ := hI
  have one : q_pth X i w = none → mm_Go E d 18 (mm_blk 18 1) [.ref o, .int i, .int w] [] h Q := by
    intro e
    repeat (first | refine gc_n3 rfl ?_ | refine gc_n6 rfl ?_ | refine gc_n7 rfl ?_ | refine gc_n8 rfl ?_ | refine gc_n9 rfl ?_ | refine gi_con ?_ | refine gi_bip (Nat.le_of_ble_eq_true rfl) ?_ | refine gi_sip (Nat.le_of_ble_eq_true rfl) ?_ | refine gi_ldc ?_ | refine gi_add ?_ | refine gi_inc rfl ?_ | refine gi_sub (by omega) ?_ | refine gi_mul ?_ | refine go_nx rfl ?_)
    refine go_rt rfl ?_
    exact h0 e
  repeat (first | refine gc_n3 rfl ?_ | refine gc_n6 rfl ?_ | refine gc_n7 rfl ?_ | refine gc_n8 rfl ?_ | refine gc_n9 rfl ?_ | refine gi_con ?_ | refine gi_bip (Nat.le_of_ble_eq_true rfl) ?_ | refine gi_sip (Nat.le_of_ble_eq_true rfl) ?_ | refine gi_ldc ?_ | refine gi_add ?_ | refine gi_inc rfl ?_ | refine gi_sub (by omega) ?_ | refine gi_mul ?_ | refine go_nx rfl ?_)
  refine gx_lt (fun d1 => ?_) (fun d1 => ?_)
  · refine one ?_
    unfold q_pth
    rw [if_pos (Or.inl d1)]
  repeat (first | refine gc_n3 rfl ?_ | refine gc_n6 rfl ?_ | refine gc_n7 rfl ?_ | refine gc_n8 rfl ?_ | refine gc_n9 rfl ?_ | refine gi_con ?_ | refine gi_bip (Nat.le_of_ble_eq_true rfl) ?_ | refine gi_sip (Nat.le_of_ble_eq_true rfl) ?_ | refine gi_ldc ?_ | refine gi_add ?_ | refine gi_inc rfl ?_ | refine gi_sub (by omega) ?_ | refine gi_mul ?_ | refine go_nx rfl ?_)
  refine gy_ge (fun d2 => ?_) (fun d2 => ?_)
  · refine one ?_
    unfold q_pth
    rw [if_pos (show i < 0 ∨ 8 ≤ i from Or.inr d2)]
  obtain ⟨k, hk, rfl⟩ := i_lt0 d1 d2
  repeat (first | refine gc_n3 rfl ?_ | refine gc_n6 rfl ?_ | refine gc_n7 rfl ?_ | refine gc_n8 rfl ?_ | refine gc_n9 rfl ?_ | refine gi_con ?_ | refine gi_bip (Nat.le_of_ble_eq_true rfl) ?_ | refine gi_sip (Nat.le_of_ble_eq_true rfl) ?_ | refine gi_ldc ?_ | refine gi_add ?_ | refine gi_inc rfl ?_ | refine gi_sub (by omega) ?_ | refine gi_mul ?_ | refine go_nx rfl ?_)
  refine gx_lt (fun d3 => ?_) (fun d3 => ?_)
  · exact one (q_pth_n (fun q => by rcases q with q | q <;> rw [q] at d3 <;> exact absurd d3 (by decide)))
  repeat (first | refine gc_n3 rfl ?_ | refine gc_n6 rfl ?_ | refine gc_n7 rfl ?_ | refine gc_n8 rfl ?_ | refine gc_n9 rfl ?_ | refine gi_con ?_ | refine gi_bip (Nat.le_of_ble_eq_true rfl) ?_ | refine gi_sip (Nat.le_of_ble_eq_true rfl) ?_ | refine gi_ldc ?_ | refine gi_add ?_ | refine gi_inc rfl ?_ | refine gi_sub (by omega) ?_ | refine gi_mul ?_ | refine go_nx rfl ?_)
  refine gy_lt (fun d4 => ?_) (fun d4 => ?_)
  rotate_left
  · repeat (first | refine gc_n3 rfl ?_ | refine gc_n6 rfl ?_ | refine gc_n7 rfl ?_ | refine gc_n8 rfl ?_ | refine gc_n9 rfl ?_ | refine gi_con ?_ | refine gi_bip (Nat.le_of_ble_eq_true rfl) ?_ | refine gi_sip (Nat.le_of_ble_eq_true rfl) ?_ | refine gi_ldc ?_ | refine gi_add ?_ | refine gi_inc rfl ?_ | refine gi_sub (by omega) ?_ | refine gi_mul ?_ | refine go_nx rfl ?_)
    refine go_jp rfl ?_
    exact one (q_pth_n (fun q => by rcases q with q | q <;> rw [q] at d4 <;> exact d4 (by decide)))
  obtain ⟨ww, hww, rfl⟩ := w_lt0 d3 d4
  obtain ⟨s1, s2⟩ := i9 k ww hk hww
  rw [q_pth_2 hk hww] at h0 h1
  repeat (first | refine gc_n3 rfl ?_ | refine gc_n6 rfl ?_ | refine gc_n7 rfl ?_ | refine gc_n8 rfl ?_ | refine gc_n9 rfl ?_ | refine gi_con ?_ | refine gi_bip (Nat.le_of_ble_eq_true rfl) ?_ | refine gi_sip (Nat.le_of_ble_eq_true rfl) ?_ | refine gi_ldc ?_ | refine gi_add ?_ | refine gi_inc rfl ?_ | refine gi_sub (by omega) ?_ | refine gi_mul ?_ | refine go_nx rfl ?_)
  refine gf_get _ c1 (by decide) rfl ?_
  repeat (first | refine gc_n3 rfl ?_ | refine gc_n6 rfl ?_ | refine gc_n7 rfl ?_ | refine gc_n8 rfl ?_ | refine gc_n9 rfl ?_ | refine gi_con ?_ | refine gi_bip (Nat.le_of_ble_eq_true rfl) ?_ | refine gi_sip (Nat.le_of_ble_eq_true rfl) ?_ | refine gi_ldc ?_ | refine gi_add ?_ | refine gi_inc rfl ?_ | refine gi_sub (by omega) ?_ | refine gi_mul ?_ | refine go_nx rfl ?_)
  refine gc_aald i4 (by omega) (by omega) ?_
  cases hp : q_pt2 X k ww with
  | none =>
    rw [s1 hp]
    refine go_rt rfl ?_
    exact h0 hp
  | some p =>
    obtain ⟨a, e1, e2⟩ := s2 p hp
    rw [e1]
    refine go_rt rfl ?_
    exact h1 p a k ww hp hk hww rfl rfl e1 e2
/-- what a path keeps is no part of the state -/
theorem cIx_keep {p : qP} {a nm k : Nat} {seen kept v : Value} {fa : Nat} (hI : cIx E h own o t F V X ta pa pl hl f g N O row B) (hk : k < 16) (hg : g k = some a) (ha : h.2.2 a = some (pCell p nm seen kept)) (hnm : bRow h nm p.1.1 p.1.2) (hnt : nm ≠ ta) (hpl : pl = .ref fa) (hv : kOk E h own N O B p v) (hfa : fa < h.1) (hX : ∀ i w q, i < 8 → w < 2 → 2 * i + w = k → q_pt2 X i w = some q → q = p) : kFr h (mm_set h a (pCell p nm (.ref fa) v)) own own ta ∧ cIx E (mm_set h a (pCell p nm (.ref fa) v)) own o t F V X ta pa pl hl f g N O row B := by
  obtain ⟨⟨c1, c2⟩, i2, i3, i4, i5, i6, i7, i8, i9, i10⟩ := hI
  have hoa : o ≠ a := fun q => by rw [q, ha] at c1; cases c1
  have hta : ta ≠ a := fun q => by rw [q, ha] at c2; cases c2
  have hpa : pa ≠ a := fun q => by rw [q, ha] at i4; cases i4
  have ht : tAt h ta := ⟨f, c2⟩
  have hfr : kFr h (mm_set h a (pCell p nm (.ref fa) v)) own own ta := ⟨Nat.le_refl _, fun b hb => ⟨rfl, fun n1 n2 n3 n4 => hs_ne (fun q => n3 [.int (q_t p.2.2), .ref nm, .int (q_t p.2.1), seen, kept] (by rw [q]; exact ha))⟩⟩
  refine ⟨hfr, ⟨by rw [hs_ne hoa]; exact c1, by rw [hs_ne hta]; exact c2⟩, ⟨hOk_set2 i2.1 ha, i2.2⟩, i3, by rw [hs_ne hpa]; exact i4, i5, fun b hb => ?_, i7, fun v hv => ?_, fun i w hi hw => ⟨(i9 i w hi hw).1, fun q hq => ?_⟩, i10⟩
  · obtain ⟨e1, e2, fa, e3, e4⟩ := i6 b hb
    exact ⟨e1, e2, fa, e3, fDat_k hfr i2.1 ht e2 e4⟩
  · obtain ⟨a2, row2, e1, e2, e3⟩ := i8 v hv
    exact ⟨a2, row2, e1, e2, vDat_k hfr i2.1 ht e2 e3⟩
  · obtain ⟨a2, e1, e2⟩ := (i9 i w hi hw).2 q hq
    refine ⟨a2, e1, ?_⟩
    by_cases hki : 2 * i + w = k
    · have := hX i w q hi hw hki hq
      subst this
      have ea : a2 = a := by rw [hki, hg] at e1; cases e1; rfl
      subst ea
      exact ⟨nm, .ref fa, v, hs_at, bRow_k hfr i2.1 hnm hnt, hnt, Or.inr ⟨fa, rfl, hfa⟩, fun fb _ _ => kOk_k hfr i2.1 ht hv⟩
    · obtain ⟨nm2, seen2, kept2, q1, q2, q3, q4, q5⟩ := e2
      have hne : a2 ≠ a := fun z => hki (i10 _ _ a (by omega) hk (by rw [← z]; exact e1) hg)
      exact ⟨nm2, seen2, kept2, by rw [hs_ne hne]; exact q1, bRow_k hfr i2.1 q2 q3, q3, q4, fun fb z1 z2 => kOk_k hfr i2.1 ht (q5 fb z1 z2)⟩
/-- the bounds of a path, asked of the planned filter -/
theorem sp_cbounds {p : qP} {a k ww fa n : Nat} (hd : 5 ≤ d) (hI : cIx E h own o t F V X ta pa pl hl f g N O row B) (hF : F = some (n, B)) (hk : k < 8) (hww : ww < 2) (hp : q_pt2 X k ww = some p) (hg : g (2 * k + ww) = some a) (hpl : pl = .ref fa)
    (hq : ∀ v h', kOk E h' own N O B p v → cIx E h' own o t F V X ta pa pl hl f g N O row B → h'.1 = h.1 → h'.2.1 = h.2.1 → kFr h h' own own ta → Q (some v) h') : mm_Go E d 94 (mm_blk 94 0) [.ref a, .ref fa] [] h Q := by
  have hI0 := hI
  obtain ⟨⟨c1, c2⟩, i2, i3, i4, i5, i6, i7, i8, i9, i10⟩ := hI
  obtain ⟨e1, e2, fa', e3, e4⟩ := i6 _ hF
  rw [hpl] at e3
  cases e3
  obtain ⟨a2, f1, nm, seen, kept, q1, q2, q3, q4, q5⟩ := (i9 k ww hk hww).2 p hp
  rw [hg] at f1
  cases f1
  have hfa : fa < h.1 := by
    obtain ⟨-, -, -, -, -, T, cl, S, g0, g1, cc, cs, -, fa1, -⟩ := e4
    exact hOk_lt i2.1 fa1
  refine sp_boundsBy hd e4 q1 q2 (q4.imp_right (fun ⟨s, z, _⟩ => ⟨s, z⟩)) (q5 fa hpl) (fun v hv => ?_)
  obtain ⟨k1, k2⟩ := cIx_keep hI0 (by omega) hg q1 q2 q3 hpl hv hfa (fun i w q hi hw he hq => by
    have e1 : i = k := by omega
    have e2 : w = ww := by omega
    subst e1 e2
    rw [hp] at hq
    cases hq
    rfl)
  exact hq v _ (kOk_k k1 i2.1 ⟨f, c2⟩ hv) k2 rfl rfl k1
end C
