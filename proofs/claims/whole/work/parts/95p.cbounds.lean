/-! THE CLASS: the bounds of one condition -/
def ptr (N : Nat → Nat) : List Nat → Value
  | [] => .null
  | x :: _ => .ref (N x)
def chn (B N : Nat → Nat) (lim : Nat) : List Nat → Prop
  | [] => True
  | x :: l => q_nx B N lim x = ptr N l ∧ chn B N lim l
theorem ptr_two (N : Nat → Nat) (l : List Nat) : ptr N l = .null ∨ ∃ a, ptr N l = .ref a := by
  cases l with
  | nil => exact Or.inl rfl
  | cons x l => exact Or.inr ⟨_, rfl⟩
/-- a node with all below it -/
def ndOk (h : mmH) (row : Nat) (B N O : Nat → Nat) (n lev lim e : Nat) : Prop := nEl h row B N O lev lim e ∧ (B e = 3 ∨ B e = 4 → ∃ s r, s ≤ n ∧ q_box (q_u8 B) B lev (q_val B e) s r = true)
section C
variable {E : mmE} {d : Nat} {h h' : mmH} {Q : Option Value → mmH → Prop} {B N O : Nat → Nat} {row n : Nat} {own own' : Nat → Nat} {M : Nat → Prop}
theorem els_chn {u : Nat → Bool} {k last : Nat} {rw_ : Bool} (hrow : q_row B n) (hl : last ≤ n) : ∀ f p i, last < f + p → q_at u k B rw_ last p i → chn B N last (q_els B last f p) ∧ ptr N (q_els B last f p) = if p < last then .ref (N p) else .null := by
  intro f
  induction f with
  | zero =>
    intro p i hf ha
    have := q_at_le ha
    omega
  | succ f ih =>
    intro p i hf ha
    rw [q_els_s]
    by_cases hp : p < last
    · rw [if_pos hp, if_pos hp]
      have hin := q_ok_in hrow (q_at_ok ha hp hl)
      obtain ⟨i1, i2⟩ := ih (q_next B p) (i + 1) (by omega) (q_at_el ha hp).2.2.2.2
      exact ⟨⟨by rw [i2]; rfl, i1⟩, rfl⟩
    · rw [if_neg hp, if_neg hp]
      exact ⟨trivial, rfl⟩
theorem box_chn {lev v stop : Nat} {rw_ : Bool} (hrow : q_row B n) (hb : q_box (q_u8 B) B lev v stop rw_ = true) (hst : stop ≤ n) : chn B N (q_last B v) (q_box_els B v) ∧ ptr N (q_box_els B v) = if v + 4 < q_last B v then .ref (N (v + 4)) else .null := by
  have := q_box_pos hb
  obtain ⟨k, rfl⟩ : ∃ j, lev = j + 1 := ⟨lev - 1, by omega⟩
  obtain ⟨h1, h2, h3, h4⟩ := q_box_at hb
  have := hrow.1
  have hl : q_last B v ≤ n := by unfold q_last; omega
  exact els_chn hrow hl 2001 (v + 4) 0 (by omega) h4
theorem fi_ptr {lev e stop : Nat} {rw_ : Bool} (hrow : q_row B n) (h34 : B e = 3 ∨ B e = 4) (hb : q_box (q_u8 B) B lev (q_val B e) stop rw_ = true) (hst : stop ≤ n) : q_fi B N e = ptr N (q_box_els B (q_val B e)) := by
  rw [(box_chn hrow hb hst).2]
  by_cases hlt : q_val B e + 4 < q_last B (q_val B e)
  · rw [if_pos hlt, q_fi_1 h34 hlt]
  · rw [if_neg hlt, q_fi_0 hlt]
theorem nd_c {lev lim e : Nat} (he : ndOk h row B N O n lev lim e) : h.2.2 (N e) = some (.inr (4, [.ref row, .int (nI (B e)), .int (nI e), .int (nI (q_ne B e)), .int (nI (q_word B e)), .int (nI (q_cls (B e))), .int (q_tf B e), .int (q_tt B e), .long (q_nu B e), q_fi B N e, q_nx B N lim e, .int (nI (O e))])) := he.1.1
theorem nd_s (hs : ∀ b c, h.2.2 b = some (.inr (4, c)) → h'.2.2 b = h.2.2 b) {lev lim e : Nat} (he : ndOk h row B N O n lev lim e) : ndOk h' row B N O n lev lim e := ⟨nEl_sub hs he.1, he.2⟩
theorem lFr_4 (h1 : lFr h h' own own' M) (hk : hOk E h) : ∀ b c, h.2.2 b = some (.inr (4, c)) → h'.2.2 b = h.2.2 b := fun b c hb => lFr_obj h1 hk hb (by decide)
theorem nd_fr (h1 : lFr h h' own own' M) (hk : hOk E h) {lev lim e : Nat} (he : ndOk h row B N O n lev lim e) : ndOk h' row B N O n lev lim e := nd_s (lFr_4 h1 hk) he
theorem box_els2 {lev v stop : Nat} {rw_ : Bool} (hrow : q_row B n) (hst : stop ≤ n) (hn : nBox h row B N O lev v) (hb : q_box (q_u8 B) B lev v stop rw_ = true) : ∀ x ∈ q_box_els B v, ndOk h row B N O n (lev - 1) (q_last B v) x := by
  have := q_box_pos hb
  obtain ⟨k, rfl⟩ : ∃ j, lev = j + 1 := ⟨lev - 1, by omega⟩
  intro x hx
  obtain ⟨h1, h2, h3, h4⟩ := q_box_at hb
  have hl : q_last B v ≤ n := by unfold q_last; omega
  rw [nBox_s] at hn
  refine ⟨hn x hx, fun h34 => ?_⟩
  obtain ⟨g1, -, j, g3⟩ := q_els_at 2001 (v + 4) 0 h4 x hx
  have g4 := q_at_box (q_at_el g3 g1).2.1
  rcases h34 with q | q
  · exact ⟨_, _, hl, g4.1 q⟩
  · exact ⟨_, _, hl, g4.2 q⟩
theorem nd_sub {lev lim e : Nat} (hrow : q_row B n) (he : ndOk h row B N O n lev lim e) (h34 : B e = 3 ∨ B e = 4) : (∀ x ∈ q_box_els B (q_val B e), ndOk h row B N O n (lev - 1) (q_last B (q_val B e)) x) ∧ chn B N (q_last B (q_val B e)) (q_box_els B (q_val B e)) ∧ q_fi B N e = ptr N (q_box_els B (q_val B e)) := by
  obtain ⟨s, r, h1, h2⟩ := he.2 h34
  exact ⟨box_els2 hrow h1 (he.1.2 h34) h2, (box_chn hrow h2 h1).1, fi_ptr hrow h34 h2 h1⟩
/-- what a maker of bounds leaves -/
def bOut (E : mmE) (h : mmH) (own : Nat → Nat) (N O : Nat → Nat) (res : Option (List qR)) (C S : Nat) (Q : Option Value → mmH → Prop) : Prop := ∀ h' own', wOk E h' own' → lFr h h' own own' (fun _ => False) → h'.1 ≤ h.1 + C → h'.2.1 ≤ h.2.1 + S → h.2.1 ≤ h'.2.1 → (res = none → Q (some .null) h') ∧ ∀ R, res = some R → ∀ a cap l', h.1 ≤ a → gL E h' own' a cap l' → bR h' N O l' R → cap ≤ 2 * R.length + 10 → Q (some (.ref a)) h'
theorem bOut_m {res : Option (List qR)} {C C' S S' : Nat} (hb : bOut E h own N O res C' S' Q) (h1 : C ≤ C') (h2 : S ≤ S') : bOut E h own N O res C S Q := fun h' own' a1 a2 a3 a4 a5 => hb h' own' a1 a2 (by omega) (by omega) a5
theorem eC_pt (B N O : Nat → Nat) (e i : Nat) : (.inr (6, [.int (nI (q_cls (B e))), .ref (N e), .int (nI i), .int (nI (2 * (4096 * q_cls (B e) + (1 + O e)) + (1 - i))), .int (nI (2 * (4096 * q_cls (B e) + (1 + O e)) + i))]) : mmC) = eCell N O (q_cls (B e), 1, i, e) := rfl
theorem eC_lo (N O : Nat → Nat) (c : Nat) : (.inr (6, [.int (nI c), .null, .int (nI 0), .int (nI (2 * (4096 * c + 4095 * 0) + 1)), .int (nI (2 * (4096 * c + 4095 * 0)))]) : mmC) = eCell N O (c, 0, 0, 0) := rfl
theorem eC_hi (N O : Nat → Nat) (c : Nat) : (.inr (6, [.int (nI c), .null, .int (nI 0), .int (nI (2 * (4096 * c + 4095 * 1) + 1)), .int (nI (2 * (4096 * c + 4095 * 1)))]) : mmC) = eCell N O (c, 2, 0, 0) := by
  simp [eCell, eLo, eHi, ePos]
theorem bOut_1 {h5 h6 : mmH} {own6 : Nat → Nat} {cap6 iv : Nat} {r : qR} (hw : wOk E h own) (hq : bOut E h own N O (some [r]) 6 63 Q) (w5 : wOk E h5 own) (f5 : lFr h h5 own own (fun _ => False)) (i5 : iAt h5 N O iv r) (s5 : h5.1 ≤ h.1 + 4) (t5 : h5.2.1 ≤ h.2.1 + 15) (u5 : h.2.1 ≤ h5.2.1) (q1 : gL E h6 own6 h.1 cap6 ([] ++ [iv])) (q2 : wOk E h6 own6) (q3 : lFr h5 h6 own own6 (fun b => b = h.1)) (q4 : aRm h5 h6 0 cap6 (([] : List Nat).length + 1)) : Q (some (.ref h.1)) h6 := by
  obtain ⟨r1, r2, r3, r4, r5⟩ := q4
  have r4 : cap6 ≤ 12 := Nat.le_trans r4 (by decide)
  exact (hq h6 own6 q2 (lFr_tm f5 q3 hw.2 (fun b hb q => by omega)) (by omega) (by omega) (by omega)).2 _ rfl h.1 cap6 _ (Nat.le_refl _) q1 (bR_fr q3 w5.1 (bR_app bR_nil i5)) r4
theorem sp_bcmp {ob : Nat → Nat → Int32} {e w lev lim : Nat} (hd : 7 ≤ d) (hE : sE E) (hw : wOk E h own) (hrow : q_row B n) (he : ndOk h row B N O n lev lim e) (h4 : B e ≠ 4) (hww : w = 5 ∨ w = 9 ∨ w = 10 ∨ w = 11 ∨ w = 12) (hq : bOut E h own N O (q_wb ob B (q_nof w) e) 6 63 Q) : mm_Go E d 83 (mm_blk 83 0) [.ref (N e), .int (nI w), mm_un, mm_un, mm_un] [] h Q := by
  have hB := hrow.2.1 e
  have hcls := q_cls_b (B e)
  have hc1 : q_cls (B e) = 1 ↔ B e = 10 := by
    unfold q_cls
    constructor
    · intro q
      repeat' split at q
      all_goals omega
    · intro q
      rw [if_pos q]
  have hwb : q_wb ob B (q_nof w) e = if w = 5 ∨ B e = 10 then (if w = 9 ∨ w = 11 then some [] else some [q_pt B e]) else if w = 9 ∨ w = 10 then some [((q_cls (B e), 0, 0, 0), (q_cls (B e), 1, (if w = 9 ∨ w = 11 then 0 else 1), e))] else some [((q_cls (B e), 1, (if w = 9 ∨ w = 11 then 0 else 1), e), (q_cls (B e), 2, 0, 0))] := by
    have g := hcls.1
    unfold q_wb q_in
    by_cases h10 : B e = 10
    · have k1 := hc1.mpr h10
      rcases hww with q | q | q | q | q <;> subst q <;> simp [q_nof, h10, show q_cls 10 = 1 from rfl]
    · have k1 : q_cls (B e) ≠ 1 := fun q => h10 (hc1.mp q)
      have k2 : 1 < q_cls (B e) := by omega
      rcases hww with q | q | q | q | q <;> subst q <;> simp [q_nof, h4, h10, k1, k2]
  rw [hwb] at hq
  clear hwb
  refine gc_n3 rfl ?_
  repeat (first | refine gc_n3 rfl ?_ | refine gc_n6 rfl ?_ | refine gc_n7 rfl ?_ | refine gc_n8 rfl ?_ | refine gc_n9 rfl ?_ | refine gi_con ?_ | refine gi_bip (Nat.le_of_ble_eq_true rfl) ?_ | refine gi_sip (Nat.le_of_ble_eq_true rfl) ?_ | refine gi_ldc ?_ | refine gi_add ?_ | refine gi_inc rfl ?_ | refine gi_sub (by omega) ?_ | refine gi_mul ?_ | refine go_nx rfl ?_)
  refine go_step ?_
  refine g_call (k := 22) rfl (by omega) (Nat.le_of_ble_eq_true rfl) rfl ?_
  refine sp_lnew (by omega) hE hw (fun h1 k1 k2 k3 k4 k5 => ?_)
  have he1 := nd_fr k3 hw.1 he
  have two : ∀ i, i = (if w = 9 ∨ w = 11 then 0 else 1) → mm_Go E d 83 (mm_blk 83 2) [.ref (N e), .int (nI w), .ref h.1, mm_un, mm_un] [.int (nI i)] h1 Q := by
    intro i hi
    rw [← hi] at hq
    have hi1 : i ≤ 1 := by rw [hi]; split <;> omega
    repeat (first | refine gc_n3 rfl ?_ | refine gc_n6 rfl ?_ | refine gc_n7 rfl ?_ | refine gc_n8 rfl ?_ | refine gc_n9 rfl ?_ | refine gi_con ?_ | refine gi_bip (Nat.le_of_ble_eq_true rfl) ?_ | refine gi_sip (Nat.le_of_ble_eq_true rfl) ?_ | refine gi_ldc ?_ | refine gi_add ?_ | refine gi_inc rfl ?_ | refine gi_sub (by omega) ?_ | refine gi_mul ?_ | refine go_nx rfl ?_)
    repeat (first | refine gc_n3 rfl ?_ | refine gc_n6 rfl ?_ | refine gc_n7 rfl ?_ | refine gc_n8 rfl ?_ | refine gc_n9 rfl ?_ | refine gi_con ?_ | refine gi_bip (Nat.le_of_ble_eq_true rfl) ?_ | refine gi_sip (Nat.le_of_ble_eq_true rfl) ?_ | refine gi_ldc ?_ | refine gi_add ?_ | refine gi_inc rfl ?_ | refine gi_sub (by omega) ?_ | refine gi_mul ?_ | refine go_nx rfl ?_)
    refine go_step ?_
    refine g_call (k := 80) rfl (by omega) (Nat.le_of_ble_eq_true rfl) rfl ?_
    have f2 : lFr h1 (mm_new h1 5 (.inr (6, [.int 0, .null, .int 0, .int 0, .int 0]))) own own (fun _ => False) := lFr_new
    refine sp_endN (nd_c (nd_fr f2 k2.1 he1)) rfl rfl hn_at hi1 ?_
    rw [hn_set, eC_pt]
    have hw3 := wOk_new (n := 5) (c := eCell N O (q_cls (B e), 1, i, e)) k2
    have f3 : lFr h1 (mm_new h1 5 (eCell N O (q_cls (B e), 1, i, e))) own own (fun _ => False) := lFr_new
    have c3 : (mm_new h1 5 (eCell N O (q_cls (B e), 1, i, e))).2.2 h1.1 = some (eCell N O (q_cls (B e), 1, i, e)) := hn_at
    have s3 : (mm_new h1 5 (eCell N O (q_cls (B e), 1, i, e))).1 = h1.1 + 1 := rfl
    have t3 : (mm_new h1 5 (eCell N O (q_cls (B e), 1, i, e))).2.1 = h1.2.1 + 5 := rfl
    generalize mm_new h1 5 (eCell N O (q_cls (B e), 1, i, e)) = h3 at hw3 f3 c3 s3 t3 ⊢
    have he3 := nd_fr f3 k2.1 he1
    have g3 := gL_fr f3 k2.1 k1 id
    have fr3 := lFr_t k3 f3
    have three : (w = 5 ∨ B e = 10) → mm_Go E d 83 (mm_blk 83 3) [.ref (N e), .int (nI w), .ref h.1, .int (nI i), .ref h1.1] [] h3 Q := by
      intro c5
      rw [if_pos c5] at hq
      repeat (first | refine gc_n3 rfl ?_ | refine gc_n6 rfl ?_ | refine gc_n7 rfl ?_ | refine gc_n8 rfl ?_ | refine gc_n9 rfl ?_ | refine gi_con ?_ | refine gi_bip (Nat.le_of_ble_eq_true rfl) ?_ | refine gi_sip (Nat.le_of_ble_eq_true rfl) ?_ | refine gi_ldc ?_ | refine gi_add ?_ | refine gi_inc rfl ?_ | refine gi_sub (by omega) ?_ | refine gi_mul ?_ | refine go_nx rfl ?_)
      first | refine gz_eq (by omega) (fun c6 => ?_) (fun c6 => ?_) | refine gz_ne (by omega) (fun c6 => ?_) (fun c6 => ?_) | refine gz_le (by omega) (fun c6 => ?_) (fun c6 => ?_) | refine gz_gt (by omega) (fun c6 => ?_) (fun c6 => ?_) | refine gz_lt (by omega) (fun c6 => ?_) (fun c6 => ?_) | refine gz_ge (by omega) (fun c6 => ?_) (fun c6 => ?_)
      · rw [if_pos (Decidable.byContradiction (fun q => by rw [if_neg q] at hi; omega))] at hq
        repeat (first | refine gc_n3 rfl ?_ | refine gc_n6 rfl ?_ | refine gc_n7 rfl ?_ | refine gc_n8 rfl ?_ | refine gc_n9 rfl ?_ | refine gi_con ?_ | refine gi_bip (Nat.le_of_ble_eq_true rfl) ?_ | refine gi_sip (Nat.le_of_ble_eq_true rfl) ?_ | refine gi_ldc ?_ | refine gi_add ?_ | refine gi_inc rfl ?_ | refine gi_sub (by omega) ?_ | refine gi_mul ?_ | refine go_nx rfl ?_)
        refine go_rt rfl ?_
        exact (hq h3 own hw3 fr3 (by omega) (by omega) (by omega)).2 _ rfl h.1 0 [] (Nat.le_refl _) g3 bR_nil (Nat.zero_le _)
      have h19 : ¬ (w = 9 ∨ w = 11) := fun q => by rw [if_pos q] at hi; omega
      have hi' : i = 1 := by rw [if_neg h19] at hi; exact hi
      subst hi'
      rw [if_neg h19] at hq
      repeat (first | refine gc_n3 rfl ?_ | refine gc_n6 rfl ?_ | refine gc_n7 rfl ?_ | refine gc_n8 rfl ?_ | refine gc_n9 rfl ?_ | refine gi_con ?_ | refine gi_bip (Nat.le_of_ble_eq_true rfl) ?_ | refine gi_sip (Nat.le_of_ble_eq_true rfl) ?_ | refine gi_ldc ?_ | refine gi_add ?_ | refine gi_inc rfl ?_ | refine gi_sub (by omega) ?_ | refine gi_mul ?_ | refine go_nx rfl ?_)
      repeat (first | refine gc_n3 rfl ?_ | refine gc_n6 rfl ?_ | refine gc_n7 rfl ?_ | refine gc_n8 rfl ?_ | refine gc_n9 rfl ?_ | refine gi_con ?_ | refine gi_bip (Nat.le_of_ble_eq_true rfl) ?_ | refine gi_sip (Nat.le_of_ble_eq_true rfl) ?_ | refine gi_ldc ?_ | refine gi_add ?_ | refine gi_inc rfl ?_ | refine gi_sub (by omega) ?_ | refine gi_mul ?_ | refine go_nx rfl ?_)
      refine go_step ?_
      refine g_call (k := 82) rfl (by omega) (Nat.le_of_ble_eq_true rfl) rfl ?_
      refine sp_iinit hn_at ?_
      rw [hn_set]
      have f4 : lFr h3 (mm_new h3 2 (.inr (7, [.ref h1.1, .ref h1.1]))) own own (fun _ => False) := lFr_new
      have w4 := wOk_new (n := 2) (c := .inr (7, [.ref h1.1, .ref h1.1])) hw3
      have g4 := gL_fr f4 hw3.1 g3 id
      have c4 := lFr_obj f4 hw3.1 c3 (by decide)
      rw [c3] at c4
      have i4 : iAt (mm_new h3 2 (.inr (7, [.ref h1.1, .ref h1.1]))) N O h3.1 (q_pt B e) := ⟨h1.1, h1.1, hn_at, c4, c4⟩
      have s4 : (mm_new h3 2 (.inr (7, [.ref h1.1, .ref h1.1]))).1 = h3.1 + 1 := rfl
      have t4 : (mm_new h3 2 (.inr (7, [.ref h1.1, .ref h1.1]))).2.1 = h3.2.1 + 2 := rfl
      refine go_step ?_
      refine g_callV (by decide) (by decide) (Nat.le_of_ble_eq_true rfl) (Nat.le_of_ble_eq_true rfl) (gL_rcv g4) (by omega) (Nat.le_of_ble_eq_true rfl) rfl ?_
      refine sp_ladd (by omega) hE w4 g4 hn_at (by decide) (by omega) (fun h6 own6 cap6 q1 q2 q3 q4 => ?_)
      repeat (first | refine gc_n3 rfl ?_ | refine gc_n6 rfl ?_ | refine gc_n7 rfl ?_ | refine gc_n8 rfl ?_ | refine gc_n9 rfl ?_ | refine gi_con ?_ | refine gi_bip (Nat.le_of_ble_eq_true rfl) ?_ | refine gi_sip (Nat.le_of_ble_eq_true rfl) ?_ | refine gi_ldc ?_ | refine gi_add ?_ | refine gi_inc rfl ?_ | refine gi_sub (by omega) ?_ | refine gi_mul ?_ | refine go_nx rfl ?_)
      refine go_jp rfl ?_
      repeat (first | refine gc_n3 rfl ?_ | refine gc_n6 rfl ?_ | refine gc_n7 rfl ?_ | refine gc_n8 rfl ?_ | refine gc_n9 rfl ?_ | refine gi_con ?_ | refine gi_bip (Nat.le_of_ble_eq_true rfl) ?_ | refine gi_sip (Nat.le_of_ble_eq_true rfl) ?_ | refine gi_ldc ?_ | refine gi_add ?_ | refine gi_inc rfl ?_ | refine gi_sub (by omega) ?_ | refine gi_mul ?_ | refine go_nx rfl ?_)
      refine go_rt rfl ?_
      exact bOut_1 hw hq w4 (lFr_t fr3 f4) i4 (by omega) (by omega) (by omega) q1 q2 q3 q4
    repeat (first | refine gc_n3 rfl ?_ | refine gc_n6 rfl ?_ | refine gc_n7 rfl ?_ | refine gc_n8 rfl ?_ | refine gc_n9 rfl ?_ | refine gi_con ?_ | refine gi_bip (Nat.le_of_ble_eq_true rfl) ?_ | refine gi_sip (Nat.le_of_ble_eq_true rfl) ?_ | refine gi_ldc ?_ | refine gi_add ?_ | refine gi_inc rfl ?_ | refine gi_sub (by omega) ?_ | refine gi_mul ?_ | refine go_nx rfl ?_)
    first | refine gb_lt (by omega) (by omega) (fun c5 => ?_) (fun c5 => ?_) | refine gb_ge (by omega) (by omega) (fun c5 => ?_) (fun c5 => ?_) | refine gb_gt (by omega) (by omega) (fun c5 => ?_) (fun c5 => ?_) | refine gb_le (by omega) (by omega) (fun c5 => ?_) (fun c5 => ?_) | refine gb_eq (by omega) (by omega) (fun c5 => ?_) (fun c5 => ?_) | refine gb_ne (by omega) (by omega) (fun c5 => ?_) (fun c5 => ?_)
    · exact three (Or.inl c5)
    repeat (first | refine gc_n3 rfl ?_ | refine gc_n6 rfl ?_ | refine gc_n7 rfl ?_ | refine gc_n8 rfl ?_ | refine gc_n9 rfl ?_ | refine gi_con ?_ | refine gi_bip (Nat.le_of_ble_eq_true rfl) ?_ | refine gi_sip (Nat.le_of_ble_eq_true rfl) ?_ | refine gi_ldc ?_ | refine gi_add ?_ | refine gi_inc rfl ?_ | refine gi_sub (by omega) ?_ | refine gi_mul ?_ | refine go_nx rfl ?_)
    refine gf_get _ (nd_c he3) (by decide) rfl ?_
    repeat (first | refine gc_n3 rfl ?_ | refine gc_n6 rfl ?_ | refine gc_n7 rfl ?_ | refine gc_n8 rfl ?_ | refine gc_n9 rfl ?_ | refine gi_con ?_ | refine gi_bip (Nat.le_of_ble_eq_true rfl) ?_ | refine gi_sip (Nat.le_of_ble_eq_true rfl) ?_ | refine gi_ldc ?_ | refine gi_add ?_ | refine gi_inc rfl ?_ | refine gi_sub (by omega) ?_ | refine gi_mul ?_ | refine go_nx rfl ?_)
    first | refine gb_lt (by omega) (by omega) (fun c6 => ?_) (fun c6 => ?_) | refine gb_ge (by omega) (by omega) (fun c6 => ?_) (fun c6 => ?_) | refine gb_gt (by omega) (by omega) (fun c6 => ?_) (fun c6 => ?_) | refine gb_le (by omega) (by omega) (fun c6 => ?_) (fun c6 => ?_) | refine gb_eq (by omega) (by omega) (fun c6 => ?_) (fun c6 => ?_) | refine gb_ne (by omega) (by omega) (fun c6 => ?_) (fun c6 => ?_)
    rotate_left
    · repeat (first | refine gc_n3 rfl ?_ | refine gc_n6 rfl ?_ | refine gc_n7 rfl ?_ | refine gc_n8 rfl ?_ | refine gc_n9 rfl ?_ | refine gi_con ?_ | refine gi_bip (Nat.le_of_ble_eq_true rfl) ?_ | refine gi_sip (Nat.le_of_ble_eq_true rfl) ?_ | refine gi_ldc ?_ | refine gi_add ?_ | refine gi_inc rfl ?_ | refine gi_sub (by omega) ?_ | refine gi_mul ?_ | refine go_nx rfl ?_)
      refine go_jp rfl ?_
      exact three (Or.inr c6)
    rw [if_neg (fun q => q.elim c5 c6)] at hq
    have five : (w = 9 ∨ w = 10) → mm_Go E d 83 (mm_blk 83 5) [.ref (N e), .int (nI w), .ref h.1, .int (nI i), .ref h1.1] [] h3 Q := by
      intro c7
      rw [if_pos c7] at hq
      repeat (first | refine gc_n3 rfl ?_ | refine gc_n6 rfl ?_ | refine gc_n7 rfl ?_ | refine gc_n8 rfl ?_ | refine gc_n9 rfl ?_ | refine gi_con ?_ | refine gi_bip (Nat.le_of_ble_eq_true rfl) ?_ | refine gi_sip (Nat.le_of_ble_eq_true rfl) ?_ | refine gi_ldc ?_ | refine gi_add ?_ | refine gi_inc rfl ?_ | refine gi_sub (by omega) ?_ | refine gi_mul ?_ | refine go_nx rfl ?_)
      repeat (first | refine gc_n3 rfl ?_ | refine gc_n6 rfl ?_ | refine gc_n7 rfl ?_ | refine gc_n8 rfl ?_ | refine gc_n9 rfl ?_ | refine gi_con ?_ | refine gi_bip (Nat.le_of_ble_eq_true rfl) ?_ | refine gi_sip (Nat.le_of_ble_eq_true rfl) ?_ | refine gi_ldc ?_ | refine gi_add ?_ | refine gi_inc rfl ?_ | refine gi_sub (by omega) ?_ | refine gi_mul ?_ | refine go_nx rfl ?_)
      repeat (first | refine gc_n3 rfl ?_ | refine gc_n6 rfl ?_ | refine gc_n7 rfl ?_ | refine gc_n8 rfl ?_ | refine gc_n9 rfl ?_ | refine gi_con ?_ | refine gi_bip (Nat.le_of_ble_eq_true rfl) ?_ | refine gi_sip (Nat.le_of_ble_eq_true rfl) ?_ | refine gi_ldc ?_ | refine gi_add ?_ | refine gi_inc rfl ?_ | refine gi_sub (by omega) ?_ | refine gi_mul ?_ | refine go_nx rfl ?_)
      have f4 : lFr h3 (mm_new h3 2 (.inr (7, [.null, .null]))) own own (fun _ => False) := lFr_new
      have w4 := wOk_new (n := 2) (c := .inr (7, [.null, .null])) hw3
      have f5 : lFr (mm_new h3 2 (.inr (7, [.null, .null]))) (mm_new (mm_new h3 2 (.inr (7, [.null, .null]))) 5 (.inr (6, [.int 0, .null, .int 0, .int 0, .int 0]))) own own (fun _ => False) := lFr_new
      refine gf_get _ (nd_c (nd_fr f5 w4.1 (nd_fr f4 hw3.1 he3))) (by decide) rfl ?_
      repeat (first | refine gc_n3 rfl ?_ | refine gc_n6 rfl ?_ | refine gc_n7 rfl ?_ | refine gc_n8 rfl ?_ | refine gc_n9 rfl ?_ | refine gi_con ?_ | refine gi_bip (Nat.le_of_ble_eq_true rfl) ?_ | refine gi_sip (Nat.le_of_ble_eq_true rfl) ?_ | refine gi_ldc ?_ | refine gi_add ?_ | refine gi_inc rfl ?_ | refine gi_sub (by omega) ?_ | refine gi_mul ?_ | refine go_nx rfl ?_)
      refine go_step ?_
      refine g_call (k := 84) rfl (by omega) (Nat.le_of_ble_eq_true rfl) rfl ?_
      refine sp_endC hn_at (by omega) ?_
      rw [hn_set, eC_lo N O]
      repeat (first | refine gc_n3 rfl ?_ | refine gc_n6 rfl ?_ | refine gc_n7 rfl ?_ | refine gc_n8 rfl ?_ | refine gc_n9 rfl ?_ | refine gi_con ?_ | refine gi_bip (Nat.le_of_ble_eq_true rfl) ?_ | refine gi_sip (Nat.le_of_ble_eq_true rfl) ?_ | refine gi_ldc ?_ | refine gi_add ?_ | refine gi_inc rfl ?_ | refine gi_sub (by omega) ?_ | refine gi_mul ?_ | refine go_nx rfl ?_)
      refine go_step ?_
      refine g_call (k := 82) rfl (by omega) (Nat.le_of_ble_eq_true rfl) rfl ?_
      have ne4 : h3.1 ≠ (mm_new h3 2 (.inr (7, [.null, .null]))).1 := Nat.ne_of_lt (Nat.lt_succ_self _)
      have w5 := wOk_new (n := 5) (c := eCell N O (q_cls (B e), 0, 0, 0)) w4
      have cc : (mm_new (mm_new h3 2 (.inr (7, [.null, .null]))) 5 (eCell N O (q_cls (B e), 0, 0, 0))).2.2 h3.1 = some (.inr (7, [.null, .null])) := by rw [hn_ne ne4]; exact hn_at
      refine sp_iinit cc ?_
      have f6 : lFr h3 (mm_set (mm_new (mm_new h3 2 (.inr (7, [.null, .null]))) 5 (eCell N O (q_cls (B e), 0, 0, 0))) h3.1 (.inr (7, [.ref (mm_new h3 2 (.inr (7, [.null, .null]))).1, .ref h1.1]))) own own (fun _ => False) := by
        refine ⟨by show h3.1 ≤ h3.1 + 1 + 1; omega, fun b hb => ⟨rfl, fun _ _ => ?_⟩⟩
        rw [hs_ne (by omega), hn_ne (by show b ≠ h3.1 + 1; omega), hn_ne (by omega)]
      have w6 : wOk E (mm_set (mm_new (mm_new h3 2 (.inr (7, [.null, .null]))) 5 (eCell N O (q_cls (B e), 0, 0, 0))) h3.1 (.inr (7, [.ref (mm_new h3 2 (.inr (7, [.null, .null]))).1, .ref h1.1]))) own := ⟨hOk_set2 w5.1 cc, w5.2⟩
      have i6 : iAt (mm_set (mm_new (mm_new h3 2 (.inr (7, [.null, .null]))) 5 (eCell N O (q_cls (B e), 0, 0, 0))) h3.1 (.inr (7, [.ref (mm_new h3 2 (.inr (7, [.null, .null]))).1, .ref h1.1]))) N O h3.1 ((q_cls (B e), 0, 0, 0), (q_cls (B e), 1, i, e)) := by
        refine ⟨_, _, hs_at, ?_, ?_⟩
        · rw [hs_ne (Ne.symm ne4)]
          exact hn_at
        · have := lFr_obj f6 hw3.1 c3 (by decide)
          rw [this]
          exact c3
      have s6 : (mm_set (mm_new (mm_new h3 2 (.inr (7, [.null, .null]))) 5 (eCell N O (q_cls (B e), 0, 0, 0))) h3.1 (.inr (7, [.ref (mm_new h3 2 (.inr (7, [.null, .null]))).1, .ref h1.1]))).1 = h3.1 + 2 := rfl
      have t6 : (mm_set (mm_new (mm_new h3 2 (.inr (7, [.null, .null]))) 5 (eCell N O (q_cls (B e), 0, 0, 0))) h3.1 (.inr (7, [.ref (mm_new h3 2 (.inr (7, [.null, .null]))).1, .ref h1.1]))).2.1 = h3.2.1 + 7 := rfl
      generalize mm_set (mm_new (mm_new h3 2 (.inr (7, [.null, .null]))) 5 (eCell N O (q_cls (B e), 0, 0, 0))) h3.1 (.inr (7, [.ref (mm_new h3 2 (.inr (7, [.null, .null]))).1, .ref h1.1])) = h6 at f6 w6 i6 s6 t6 ⊢
      have g6 := gL_fr f6 hw3.1 g3 id
      obtain ⟨lo, hh, ic, il, ih⟩ := i6
      refine go_step ?_
      refine g_callV (by decide) (by decide) (Nat.le_of_ble_eq_true rfl) (Nat.le_of_ble_eq_true rfl) (gL_rcv g6) (by omega) (Nat.le_of_ble_eq_true rfl) rfl ?_
      refine sp_ladd (by omega) hE w6 g6 ic (by decide) (by omega) (fun h7 own7 cap7 q1 q2 q3 q4 => ?_)
      repeat (first | refine gc_n3 rfl ?_ | refine gc_n6 rfl ?_ | refine gc_n7 rfl ?_ | refine gc_n8 rfl ?_ | refine gc_n9 rfl ?_ | refine gi_con ?_ | refine gi_bip (Nat.le_of_ble_eq_true rfl) ?_ | refine gi_sip (Nat.le_of_ble_eq_true rfl) ?_ | refine gi_ldc ?_ | refine gi_add ?_ | refine gi_inc rfl ?_ | refine gi_sub (by omega) ?_ | refine gi_mul ?_ | refine go_nx rfl ?_)
      refine go_jp rfl ?_
      repeat (first | refine gc_n3 rfl ?_ | refine gc_n6 rfl ?_ | refine gc_n7 rfl ?_ | refine gc_n8 rfl ?_ | refine gc_n9 rfl ?_ | refine gi_con ?_ | refine gi_bip (Nat.le_of_ble_eq_true rfl) ?_ | refine gi_sip (Nat.le_of_ble_eq_true rfl) ?_ | refine gi_ldc ?_ | refine gi_add ?_ | refine gi_inc rfl ?_ | refine gi_sub (by omega) ?_ | refine gi_mul ?_ | refine go_nx rfl ?_)
      refine go_rt rfl ?_
      exact bOut_1 hw hq w6 (lFr_t fr3 f6) ⟨lo, hh, ic, il, ih⟩ (by omega) (by omega) (by omega) q1 q2 q3 q4
    repeat (first | refine gc_n3 rfl ?_ | refine gc_n6 rfl ?_ | refine gc_n7 rfl ?_ | refine gc_n8 rfl ?_ | refine gc_n9 rfl ?_ | refine gi_con ?_ | refine gi_bip (Nat.le_of_ble_eq_true rfl) ?_ | refine gi_sip (Nat.le_of_ble_eq_true rfl) ?_ | refine gi_ldc ?_ | refine gi_add ?_ | refine gi_inc rfl ?_ | refine gi_sub (by omega) ?_ | refine gi_mul ?_ | refine go_nx rfl ?_)
    first | refine gb_lt (by omega) (by omega) (fun c7 => ?_) (fun c7 => ?_) | refine gb_ge (by omega) (by omega) (fun c7 => ?_) (fun c7 => ?_) | refine gb_gt (by omega) (by omega) (fun c7 => ?_) (fun c7 => ?_) | refine gb_le (by omega) (by omega) (fun c7 => ?_) (fun c7 => ?_) | refine gb_eq (by omega) (by omega) (fun c7 => ?_) (fun c7 => ?_) | refine gb_ne (by omega) (by omega) (fun c7 => ?_) (fun c7 => ?_)
    · exact five (Or.inl c7)
    repeat (first | refine gc_n3 rfl ?_ | refine gc_n6 rfl ?_ | refine gc_n7 rfl ?_ | refine gc_n8 rfl ?_ | refine gc_n9 rfl ?_ | refine gi_con ?_ | refine gi_bip (Nat.le_of_ble_eq_true rfl) ?_ | refine gi_sip (Nat.le_of_ble_eq_true rfl) ?_ | refine gi_ldc ?_ | refine gi_add ?_ | refine gi_inc rfl ?_ | refine gi_sub (by omega) ?_ | refine gi_mul ?_ | refine go_nx rfl ?_)
    first | refine gb_lt (by omega) (by omega) (fun c8 => ?_) (fun c8 => ?_) | refine gb_ge (by omega) (by omega) (fun c8 => ?_) (fun c8 => ?_) | refine gb_gt (by omega) (by omega) (fun c8 => ?_) (fun c8 => ?_) | refine gb_le (by omega) (by omega) (fun c8 => ?_) (fun c8 => ?_) | refine gb_eq (by omega) (by omega) (fun c8 => ?_) (fun c8 => ?_) | refine gb_ne (by omega) (by omega) (fun c8 => ?_) (fun c8 => ?_)
    rotate_left
    · repeat (first | refine gc_n3 rfl ?_ | refine gc_n6 rfl ?_ | refine gc_n7 rfl ?_ | refine gc_n8 rfl ?_ | refine gc_n9 rfl ?_ | refine gi_con ?_ | refine gi_bip (Nat.le_of_ble_eq_true rfl) ?_ | refine gi_sip (Nat.le_of_ble_eq_true rfl) ?_ | refine gi_ldc ?_ | refine gi_add ?_ | refine gi_inc rfl ?_ | refine gi_sub (by omega) ?_ | refine gi_mul ?_ | refine go_nx rfl ?_)
      refine go_jp rfl ?_
      exact five (Or.inr c8)
    rw [if_neg (fun q => q.elim c7 c8)] at hq
    repeat (first | refine gc_n3 rfl ?_ | refine gc_n6 rfl ?_ | refine gc_n7 rfl ?_ | refine gc_n8 rfl ?_ | refine gc_n9 rfl ?_ | refine gi_con ?_ | refine gi_bip (Nat.le_of_ble_eq_true rfl) ?_ | refine gi_sip (Nat.le_of_ble_eq_true rfl) ?_ | refine gi_ldc ?_ | refine gi_add ?_ | refine gi_inc rfl ?_ | refine gi_sub (by omega) ?_ | refine gi_mul ?_ | refine go_nx rfl ?_)
    repeat (first | refine gc_n3 rfl ?_ | refine gc_n6 rfl ?_ | refine gc_n7 rfl ?_ | refine gc_n8 rfl ?_ | refine gc_n9 rfl ?_ | refine gi_con ?_ | refine gi_bip (Nat.le_of_ble_eq_true rfl) ?_ | refine gi_sip (Nat.le_of_ble_eq_true rfl) ?_ | refine gi_ldc ?_ | refine gi_add ?_ | refine gi_inc rfl ?_ | refine gi_sub (by omega) ?_ | refine gi_mul ?_ | refine go_nx rfl ?_)
    repeat (first | refine gc_n3 rfl ?_ | refine gc_n6 rfl ?_ | refine gc_n7 rfl ?_ | refine gc_n8 rfl ?_ | refine gc_n9 rfl ?_ | refine gi_con ?_ | refine gi_bip (Nat.le_of_ble_eq_true rfl) ?_ | refine gi_sip (Nat.le_of_ble_eq_true rfl) ?_ | refine gi_ldc ?_ | refine gi_add ?_ | refine gi_inc rfl ?_ | refine gi_sub (by omega) ?_ | refine gi_mul ?_ | refine go_nx rfl ?_)
    have f4 : lFr h3 (mm_new h3 2 (.inr (7, [.null, .null]))) own own (fun _ => False) := lFr_new
    have w4 := wOk_new (n := 2) (c := .inr (7, [.null, .null])) hw3
    have f5 : lFr (mm_new h3 2 (.inr (7, [.null, .null]))) (mm_new (mm_new h3 2 (.inr (7, [.null, .null]))) 5 (.inr (6, [.int 0, .null, .int 0, .int 0, .int 0]))) own own (fun _ => False) := lFr_new
    refine gf_get _ (nd_c (nd_fr f5 w4.1 (nd_fr f4 hw3.1 he3))) (by decide) rfl ?_
    repeat (first | refine gc_n3 rfl ?_ | refine gc_n6 rfl ?_ | refine gc_n7 rfl ?_ | refine gc_n8 rfl ?_ | refine gc_n9 rfl ?_ | refine gi_con ?_ | refine gi_bip (Nat.le_of_ble_eq_true rfl) ?_ | refine gi_sip (Nat.le_of_ble_eq_true rfl) ?_ | refine gi_ldc ?_ | refine gi_add ?_ | refine gi_inc rfl ?_ | refine gi_sub (by omega) ?_ | refine gi_mul ?_ | refine go_nx rfl ?_)
    refine go_step ?_
    refine g_call (k := 84) rfl (by omega) (Nat.le_of_ble_eq_true rfl) rfl ?_
    refine sp_endC hn_at (by omega) ?_
    rw [hn_set, eC_hi N O]
    repeat (first | refine gc_n3 rfl ?_ | refine gc_n6 rfl ?_ | refine gc_n7 rfl ?_ | refine gc_n8 rfl ?_ | refine gc_n9 rfl ?_ | refine gi_con ?_ | refine gi_bip (Nat.le_of_ble_eq_true rfl) ?_ | refine gi_sip (Nat.le_of_ble_eq_true rfl) ?_ | refine gi_ldc ?_ | refine gi_add ?_ | refine gi_inc rfl ?_ | refine gi_sub (by omega) ?_ | refine gi_mul ?_ | refine go_nx rfl ?_)
    refine go_step ?_
    refine g_call (k := 82) rfl (by omega) (Nat.le_of_ble_eq_true rfl) rfl ?_
    have ne4 : h3.1 ≠ (mm_new h3 2 (.inr (7, [.null, .null]))).1 := Nat.ne_of_lt (Nat.lt_succ_self _)
    have w5 := wOk_new (n := 5) (c := eCell N O (q_cls (B e), 2, 0, 0)) w4
    have cc : (mm_new (mm_new h3 2 (.inr (7, [.null, .null]))) 5 (eCell N O (q_cls (B e), 2, 0, 0))).2.2 h3.1 = some (.inr (7, [.null, .null])) := by rw [hn_ne ne4]; exact hn_at
    refine sp_iinit cc ?_
    have f6 : lFr h3 (mm_set (mm_new (mm_new h3 2 (.inr (7, [.null, .null]))) 5 (eCell N O (q_cls (B e), 2, 0, 0))) h3.1 (.inr (7, [.ref h1.1, .ref (mm_new h3 2 (.inr (7, [.null, .null]))).1]))) own own (fun _ => False) := by
      refine ⟨by show h3.1 ≤ h3.1 + 1 + 1; omega, fun b hb => ⟨rfl, fun _ _ => ?_⟩⟩
      rw [hs_ne (by omega), hn_ne (by show b ≠ h3.1 + 1; omega), hn_ne (by omega)]
    have w6 : wOk E (mm_set (mm_new (mm_new h3 2 (.inr (7, [.null, .null]))) 5 (eCell N O (q_cls (B e), 2, 0, 0))) h3.1 (.inr (7, [.ref h1.1, .ref (mm_new h3 2 (.inr (7, [.null, .null]))).1]))) own := ⟨hOk_set2 w5.1 cc, w5.2⟩
    have i6 : iAt (mm_set (mm_new (mm_new h3 2 (.inr (7, [.null, .null]))) 5 (eCell N O (q_cls (B e), 2, 0, 0))) h3.1 (.inr (7, [.ref h1.1, .ref (mm_new h3 2 (.inr (7, [.null, .null]))).1]))) N O h3.1 ((q_cls (B e), 1, i, e), (q_cls (B e), 2, 0, 0)) := by
      refine ⟨_, _, hs_at, ?_, ?_⟩
      · have := lFr_obj f6 hw3.1 c3 (by decide)
        rw [this]
        exact c3
      · rw [hs_ne (Ne.symm ne4)]
        exact hn_at
    have s6 : (mm_set (mm_new (mm_new h3 2 (.inr (7, [.null, .null]))) 5 (eCell N O (q_cls (B e), 2, 0, 0))) h3.1 (.inr (7, [.ref h1.1, .ref (mm_new h3 2 (.inr (7, [.null, .null]))).1]))).1 = h3.1 + 2 := rfl
    have t6 : (mm_set (mm_new (mm_new h3 2 (.inr (7, [.null, .null]))) 5 (eCell N O (q_cls (B e), 2, 0, 0))) h3.1 (.inr (7, [.ref h1.1, .ref (mm_new h3 2 (.inr (7, [.null, .null]))).1]))).2.1 = h3.2.1 + 7 := rfl
    generalize mm_set (mm_new (mm_new h3 2 (.inr (7, [.null, .null]))) 5 (eCell N O (q_cls (B e), 2, 0, 0))) h3.1 (.inr (7, [.ref h1.1, .ref (mm_new h3 2 (.inr (7, [.null, .null]))).1])) = h6 at f6 w6 i6 s6 t6 ⊢
    have g6 := gL_fr f6 hw3.1 g3 id
    obtain ⟨lo, hh, ic, il, ih⟩ := i6
    refine go_step ?_
    refine g_callV (by decide) (by decide) (Nat.le_of_ble_eq_true rfl) (Nat.le_of_ble_eq_true rfl) (gL_rcv g6) (by omega) (Nat.le_of_ble_eq_true rfl) rfl ?_
    refine sp_ladd (by omega) hE w6 g6 ic (by decide) (by omega) (fun h7 own7 cap7 q1 q2 q3 q4 => ?_)
    repeat (first | refine gc_n3 rfl ?_ | refine gc_n6 rfl ?_ | refine gc_n7 rfl ?_ | refine gc_n8 rfl ?_ | refine gc_n9 rfl ?_ | refine gi_con ?_ | refine gi_bip (Nat.le_of_ble_eq_true rfl) ?_ | refine gi_sip (Nat.le_of_ble_eq_true rfl) ?_ | refine gi_ldc ?_ | refine gi_add ?_ | refine gi_inc rfl ?_ | refine gi_sub (by omega) ?_ | refine gi_mul ?_ | refine go_nx rfl ?_)
    refine go_jp rfl ?_
    repeat (first | refine gc_n3 rfl ?_ | refine gc_n6 rfl ?_ | refine gc_n7 rfl ?_ | refine gc_n8 rfl ?_ | refine gc_n9 rfl ?_ | refine gi_con ?_ | refine gi_bip (Nat.le_of_ble_eq_true rfl) ?_ | refine gi_sip (Nat.le_of_ble_eq_true rfl) ?_ | refine gi_ldc ?_ | refine gi_add ?_ | refine gi_inc rfl ?_ | refine gi_sub (by omega) ?_ | refine gi_mul ?_ | refine go_nx rfl ?_)
    refine go_rt rfl ?_
    exact bOut_1 hw hq w6 (lFr_t fr3 f6) ⟨lo, hh, ic, il, ih⟩ (by omega) (by omega) (by omega) q1 q2 q3 q4
  repeat (first | refine gc_n3 rfl ?_ | refine gc_n6 rfl ?_ | refine gc_n7 rfl ?_ | refine gc_n8 rfl ?_ | refine gc_n9 rfl ?_ | refine gi_con ?_ | refine gi_bip (Nat.le_of_ble_eq_true rfl) ?_ | refine gi_sip (Nat.le_of_ble_eq_true rfl) ?_ | refine gi_ldc ?_ | refine gi_add ?_ | refine gi_inc rfl ?_ | refine gi_sub (by omega) ?_ | refine gi_mul ?_ | refine go_nx rfl ?_)
  first | refine gb_lt (by omega) (by omega) (fun c1 => ?_) (fun c1 => ?_) | refine gb_ge (by omega) (by omega) (fun c1 => ?_) (fun c1 => ?_) | refine gb_gt (by omega) (by omega) (fun c1 => ?_) (fun c1 => ?_) | refine gb_le (by omega) (by omega) (fun c1 => ?_) (fun c1 => ?_) | refine gb_eq (by omega) (by omega) (fun c1 => ?_) (fun c1 => ?_) | refine gb_ne (by omega) (by omega) (fun c1 => ?_) (fun c1 => ?_)
  · repeat (first | refine gc_n3 rfl ?_ | refine gc_n6 rfl ?_ | refine gc_n7 rfl ?_ | refine gc_n8 rfl ?_ | refine gc_n9 rfl ?_ | refine gi_con ?_ | refine gi_bip (Nat.le_of_ble_eq_true rfl) ?_ | refine gi_sip (Nat.le_of_ble_eq_true rfl) ?_ | refine gi_ldc ?_ | refine gi_add ?_ | refine gi_inc rfl ?_ | refine gi_sub (by omega) ?_ | refine gi_mul ?_ | refine go_nx rfl ?_)
    refine go_jp rfl ?_
    exact two 0 (by rw [if_pos (Or.inl c1)])
  repeat (first | refine gc_n3 rfl ?_ | refine gc_n6 rfl ?_ | refine gc_n7 rfl ?_ | refine gc_n8 rfl ?_ | refine gc_n9 rfl ?_ | refine gi_con ?_ | refine gi_bip (Nat.le_of_ble_eq_true rfl) ?_ | refine gi_sip (Nat.le_of_ble_eq_true rfl) ?_ | refine gi_ldc ?_ | refine gi_add ?_ | refine gi_inc rfl ?_ | refine gi_sub (by omega) ?_ | refine gi_mul ?_ | refine go_nx rfl ?_)
  first | refine gb_lt (by omega) (by omega) (fun c2 => ?_) (fun c2 => ?_) | refine gb_ge (by omega) (by omega) (fun c2 => ?_) (fun c2 => ?_) | refine gb_gt (by omega) (by omega) (fun c2 => ?_) (fun c2 => ?_) | refine gb_le (by omega) (by omega) (fun c2 => ?_) (fun c2 => ?_) | refine gb_eq (by omega) (by omega) (fun c2 => ?_) (fun c2 => ?_) | refine gb_ne (by omega) (by omega) (fun c2 => ?_) (fun c2 => ?_)
  · repeat (first | refine gc_n3 rfl ?_ | refine gc_n6 rfl ?_ | refine gc_n7 rfl ?_ | refine gc_n8 rfl ?_ | refine gc_n9 rfl ?_ | refine gi_con ?_ | refine gi_bip (Nat.le_of_ble_eq_true rfl) ?_ | refine gi_sip (Nat.le_of_ble_eq_true rfl) ?_ | refine gi_ldc ?_ | refine gi_add ?_ | refine gi_inc rfl ?_ | refine gi_sub (by omega) ?_ | refine gi_mul ?_ | refine go_nx rfl ?_)
    refine go_jp rfl ?_
    exact two 0 (by rw [if_pos (Or.inr c2)])
  repeat (first | refine gc_n3 rfl ?_ | refine gc_n6 rfl ?_ | refine gc_n7 rfl ?_ | refine gc_n8 rfl ?_ | refine gc_n9 rfl ?_ | refine gi_con ?_ | refine gi_bip (Nat.le_of_ble_eq_true rfl) ?_ | refine gi_sip (Nat.le_of_ble_eq_true rfl) ?_ | refine gi_ldc ?_ | refine gi_add ?_ | refine gi_inc rfl ?_ | refine gi_sub (by omega) ?_ | refine gi_mul ?_ | refine go_nx rfl ?_)
  refine go_jp rfl ?_
  exact two 1 (by rw [if_neg (fun q => q.elim c1 c2)])
end C
