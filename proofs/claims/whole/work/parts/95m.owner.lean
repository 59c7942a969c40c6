/-! lists and their owners: own says of an array which list it belongs to -/
def gL (E : mmE) (h : mmH) (own : Nat → Nat) (a cap : Nat) (l : List Nat) : Prop := ∃ ed, aL E h a ed cap l ∧ (cap = 0 ∨ own ed = a)
def wOk (E : mmE) (h : mmH) (own : Nat → Nat) : Prop := hOk E h ∧ ∀ b, own b < h.1
/-- but for the lists of M and their arrays all stays -/
def lFr (h h' : mmH) (own own' : Nat → Nat) (M : Nat → Prop) : Prop := h.1 ≤ h'.1 ∧ ∀ b, b < h.1 → own' b = own b ∧ ((∀ fs, h.2.2 b = some (.inr (3, fs)) → ¬ M b) → (∀ n f, h.2.2 b = some (aCell 3 n f) → ¬ M (own b)) → h'.2.2 b = h.2.2 b)
/-- the room that a list takes which grows to n -/
def aRm (h h' : mmH) (cap cap' n : Nat) : Prop := 5 * h'.1 + cap ≤ 5 * h.1 + cap' ∧ h'.2.1 + 4 * cap ≤ h.2.1 + 4 * cap' ∧ cap ≤ cap' ∧ cap' ≤ max cap (2 * n + 10) ∧ h.2.1 ≤ h'.2.1
section A
variable {E : mmE} {d : Nat} {h h' h'' : mmH} {Q : Option Value → mmH → Prop} {own own' own'' : Nat → Nat} {M M' : Nat → Prop} {a cap : Nat} {l : List Nat}
theorem lFr_r (h : mmH) (own : Nat → Nat) (M : Nat → Prop) : lFr h h own own M := ⟨Nat.le_refl _, fun _ _ => ⟨rfl, fun _ _ => rfl⟩⟩
theorem lFr_t (h1 : lFr h h' own own' M) (h2 : lFr h' h'' own' own'' M) : lFr h h'' own own'' M := by
  refine ⟨Nat.le_trans h1.1 h2.1, fun b hb => ?_⟩
  obtain ⟨a1, a2⟩ := h1.2 b hb
  obtain ⟨b1, b2⟩ := h2.2 b (Nat.lt_of_lt_of_le hb h1.1)
  refine ⟨b1.trans a1, fun c1 c2 => ?_⟩
  have e := a2 c1 c2
  rw [e, a1] at b2
  exact b2 c1 c2
theorem lFr_m (h1 : lFr h h' own own' M) (ho : ∀ b, own b < h.1) (hM : ∀ b, b < h.1 → M b → M' b) : lFr h h' own own' M' := ⟨h1.1, fun b hb => ⟨(h1.2 b hb).1, fun c1 c2 => (h1.2 b hb).2 (fun fs q z => c1 fs q (hM b hb z)) (fun n f q z => c2 n f q (hM _ (ho b) z))⟩⟩
theorem lFr_tm (h1 : lFr h h' own own' M') (h2 : lFr h' h'' own' own'' M) (ho : ∀ b, own b < h.1) (hM : ∀ b, b < h.1 → M b → M' b) : lFr h h'' own own'' M' := by
  refine ⟨Nat.le_trans h1.1 h2.1, fun b hb => ?_⟩
  obtain ⟨a1, a2⟩ := h1.2 b hb
  obtain ⟨b1, b2⟩ := h2.2 b (Nat.lt_of_lt_of_le hb h1.1)
  refine ⟨b1.trans a1, fun c1 c2 => ?_⟩
  have e := a2 c1 c2
  rw [e, a1] at b2
  exact b2 (fun fs q z => c1 fs q (hM b hb z)) (fun n f q z => c2 n f q (hM _ (ho b) z))
theorem lFr_obj (h1 : lFr h h' own own' M) (hk : hOk E h) {b ci : Nat} {fs : List Value} (hb : h.2.2 b = some (.inr (ci, fs))) (hci : ci ≠ 3) : h'.2.2 b = h.2.2 b := (h1.2 b (hOk_lt hk hb)).2 (fun fs q => by rw [hb] at q; cases q; exact absurd rfl hci) (fun n f q => by rw [hb] at q; cases q)
theorem lFr_row (h1 : lFr h h' own own' M) (hk : hOk E h) {b t : Nat} {x : vp_A} (hb : h.2.2 b = some (.inl (t, x))) (ht : t ≠ 3) : h'.2.2 b = h.2.2 b := (h1.2 b (hOk_lt hk hb)).2 (fun fs q => by rw [hb] at q; cases q) (fun n f q => by rw [hb] at q; unfold aCell at q; cases q; exact absurd rfl ht)
theorem gL_fr (h1 : lFr h h' own own' M) (hk : hOk E h) (ha : gL E h own a cap l) (hM : ¬ M a) : gL E h' own' a cap l := by
  obtain ⟨ed, ⟨⟨mc, hm⟩, harr, hN⟩, ho⟩ := ha
  have e1 : h'.2.2 a = h.2.2 a := (h1.2 a (hOk_lt hk hm)).2 (fun _ _ => hM) (fun n f q => by rw [hm] at q; cases q)
  rcases harr with ⟨n1, n2, n3⟩ | ⟨n1, n2, f, n3, n4⟩
  · exact ⟨ed, ⟨⟨mc, by rw [e1]; exact hm⟩, Or.inl ⟨n1, n2, n3⟩, hN⟩, Or.inl n1⟩
  · have ho : own ed = a := ho.resolve_left (by omega)
    obtain ⟨b1, b2⟩ := h1.2 ed (hOk_lt hk n3)
    have e2 : h'.2.2 ed = h.2.2 ed := b2 (fun fs q => by rw [n3] at q; cases q) (fun n f _ z => hM (by rw [← ho]; exact z))
    exact ⟨ed, ⟨⟨mc, by rw [e1]; exact hm⟩, Or.inr ⟨n1, n2, f, by rw [e2]; exact n3, n4⟩, hN⟩, Or.inr (b1.trans ho)⟩
theorem gL_lt (hk : hOk E h) (ha : gL E h own a cap l) : a < h.1 := by
  obtain ⟨ed, ⟨⟨mc, hm⟩, -⟩, -⟩ := ha
  exact hOk_lt hk hm
theorem gL_rcv (ha : gL E h own a cap l) : mm_rcv E h 4 (some (.ref a)) = true := by
  obtain ⟨ed, g1, -⟩ := ha
  exact aL_rcv g1
theorem gL_len (ha : gL E h own a cap l) : l.length ≤ cap := by
  obtain ⟨ed, g1, -⟩ := ha
  exact aL_len g1
theorem sp_lsize (ha : gL E h own a cap l) (hq : Q (some (.int (nI l.length))) h) : mm_Go E d 54 (mm_blk 54 0) [.ref a] [] h Q := by
  obtain ⟨ed, g1, -⟩ := ha
  exact sp_size g1 hq
theorem sp_lget {i : Nat} (hd : 2 ≤ d) (ha : gL E h own a cap l) (hi : i < l.length) (hq : Q (some (.ref (l.getD i 0))) h) : mm_Go E d 55 (mm_blk 55 0) [.ref a, .int (nI i)] [] h Q := by
  obtain ⟨ed, g1, -⟩ := ha
  exact sp_get hd g1 hi hq
/-- the frame of a call on a list -/
theorem fr_l {ed : Nat} (hk : hOk E h) (hk' : hOk E h') (ha : aL E h a ed cap l) (ho : cap = 0 ∨ own ed = a) (hf : hFr h h' (fun b => b = a ∨ b = ed)) (hE : sE E) (hown : ∀ b, b < h.1 → own' b = own b) : lFr h h' own own' (fun b => b = a) := by
  refine ⟨hf.1, fun b hb => ⟨hown b hb, fun c1 c2 => ?_⟩⟩
  by_cases e1 : b = a
  · obtain ⟨mc, hm⟩ := ha.1
    rw [← e1] at hm
    exact absurd e1 (c1 _ hm)
  · by_cases e2 : b = ed
    · rcases ha.2.1 with ⟨n1, n2, n3⟩ | ⟨n1, n2, f, n3, n4⟩
      · obtain ⟨⟨t, g, t1, t2, t3⟩, -⟩ := hE
        rw [n3] at t1
        cases t1
        rw [e2, hk.2.1 ed t3, hk'.2.1 ed t3]
      · rw [← e2] at n3 ho
        exact absurd (ho.resolve_left (by omega)) (c2 _ _ n3)
    · exact hf.2 b hb (fun q => q.elim e1 e2)
def ownU (h : mmH) (own : Nat → Nat) (a : Nat) : Nat → Nat := fun b => if b < h.1 then own b else a
theorem ownU_lt {b : Nat} (hb : b < h.1) : ownU h own a b = own b := if_pos hb
theorem ownU_ge {b : Nat} (hb : h.1 ≤ b) : ownU h own a b = a := if_neg (by omega)
/-- what a call on a list leaves, with owners -/
theorem nx_own {ed ed' cap' : Nat} {l' : List Nat} (hE : sE E) (hw : wOk E h own) (ha : aL E h a ed cap l) (ho : cap = 0 ∨ own ed = a) (hl' : 0 < l'.length) (hn : aNx E h h' a ed cap l' ed' cap') : gL E h' (ownU h own a) a cap' l' ∧ wOk E h' (ownU h own a) ∧ lFr h h' own (ownU h own a) (fun b => b = a) := by
  obtain ⟨g1, g2, g3, g4, g5, g6, g7, g8, g9⟩ := hn
  have hlt := gL_lt hw.1 ⟨ed, ha, ho⟩
  refine ⟨⟨ed', g1, Or.inr ?_⟩, ⟨g2, fun b => ?_⟩, fr_l hw.1 g2 ha ho g3 hE (fun b hb => ownU_lt hb)⟩
  · rcases g4 with e | e
    · subst e
      rcases ha.2.1 with ⟨n1, n2, n3⟩ | ⟨n1, n2, f, n3, n4⟩
      · obtain ⟨⟨t, g, t1, t2, t3⟩, -⟩ := hE
        rw [n3] at t1
        cases t1
        rcases g1.2.1 with ⟨m1, m2, m3⟩ | ⟨m1, m2, f, m3, m4⟩
        · rw [m2] at hl'
          exact absurd hl' (Nat.lt_irrefl _)
        · rw [g2.2.1 _ t3] at m3
          cases m3
      · rw [ownU_lt (hOk_lt hw.1 n3)]
        exact ho.resolve_left (by omega)
    · exact ownU_ge e
  · have := g3.1
    by_cases hb : b < h.1
    · rw [ownU_lt hb]
      have := hw.2 b
      omega
    · rw [ownU_ge (by omega)]
      omega
theorem sp_ladd {x ci : Nat} {fs : List Value} (hd : 6 ≤ d) (hE : sE E) (hw : wOk E h own) (ha : gL E h own a cap l) (hx : h.2.2 x = some (.inr (ci, fs))) (hci : ci ≠ 3) (hN : cap ≤ 40000)
    (hq : ∀ h' own' cap', gL E h' own' a cap' (l ++ [x]) → wOk E h' own' → lFr h h' own own' (fun b => b = a) → aRm h h' cap cap' (l.length + 1) → Q (some (.int (nI 1))) h') : mm_Go E d 40 (mm_blk 40 0) [.ref a, .ref x] [] h Q := by
  obtain ⟨ed, g1, g2⟩ := ha
  refine sp_addy hd hE hw.1 g1 hx hci hN (fun h' ed' N' hn hn5 => ?_)
  have hl : (l ++ [x]).length = l.length + 1 := by rw [List.length_append]; rfl
  obtain ⟨k1, k2, k3⟩ := nx_own hE hw g1 g2 (by omega) hn
  obtain ⟨-, -, -, -, -, p6, p7, p8, p9⟩ := hn
  exact hq h' _ N' k1 k2 k3 ⟨hn5, p6, p7, by rw [hl] at p8; omega, p9⟩
theorem sp_laddAt {x ci i : Nat} {fs : List Value} (hd : 6 ≤ d) (hE : sE E) (hw : wOk E h own) (ha : gL E h own a cap l) (hx : h.2.2 x = some (.inr (ci, fs))) (hci : ci ≠ 3) (hN : cap ≤ 40000) (hi : i ≤ l.length)
    (hq : ∀ h' own' cap', gL E h' own' a cap' (l_at l i x) → wOk E h' own' → lFr h h' own own' (fun b => b = a) → h'.1 ≤ h.1 + 1 → h'.2.1 + 4 * cap ≤ h.2.1 + 4 * cap' → cap' ≤ max cap (2 * (l.length + 1) + 10) → h.2.1 ≤ h'.2.1 → Q none h') : mm_Go E d 74 (mm_blk 74 0) [.ref a, .int (nI i), .ref x, mm_un, mm_un] [] h Q := by
  obtain ⟨ed, g1, g2⟩ := ha
  refine sp_addAt hd hE hw.1 g1 hx hci hN hi (fun h' ed' N' hn => ?_)
  have hl := l_at_len (x := x) hi
  obtain ⟨k1, k2, k3⟩ := nx_own hE hw g1 g2 (by omega) hn
  obtain ⟨-, -, -, -, p5, p6, p7, p8, p9⟩ := hn
  exact hq h' _ N' k1 k2 k3 p5 p6 (by rw [hl] at p8; omega) p9
theorem sp_lclear (hE : sE E) (hw : wOk E h own) (ha : gL E h own a cap l) (hq : ∀ h', gL E h' own a cap [] → wOk E h' own → lFr h h' own own (fun b => b = a) → h'.1 = h.1 → h'.2.1 = h.2.1 → Q none h') : mm_Go E d 88 (mm_blk 88 0) [.ref a, mm_un, mm_un, mm_un] [] h Q := by
  obtain ⟨ed, g1, g2⟩ := ha
  refine sp_clear hw.1 g1 (fun h' p1 p2 p3 p4 p5 => ?_)
  exact hq h' ⟨ed, p1, g2⟩ ⟨p2, fun b => by rw [p4]; exact hw.2 b⟩ (fr_l hw.1 p2 g1 g2 p3 hE (fun _ _ => rfl)) p4 p5
theorem lFr_new {n : Nat} {c : mmC} : lFr h (mm_new h n c) own own M := ⟨Nat.le_succ _, fun b hb => ⟨rfl, fun _ _ => hn_ne (by omega)⟩⟩
theorem wOk_new {n : Nat} {c : mmC} (hw : wOk E h own) : wOk E (mm_new h n c) own := ⟨hOk_new hw.1, fun b => Nat.lt_succ_of_lt (hw.2 b)⟩
/-- a new list -/
theorem sp_lnew (hd : 2 ≤ d) (hE : sE E) (hw : wOk E h own) (hq : ∀ h', gL E h' own h.1 0 [] → wOk E h' own → lFr h h' own own (fun _ => False) → h'.1 = h.1 + 1 → h'.2.1 = h.2.1 + 3 → Q none h') : mm_Go E d 22 (mm_blk 22 0) [.ref h.1] [] (mm_new h 3 (.inr (3, [.null, .int 0, .int 0]))) Q := by
  refine sp_linit (fs := []) hd hE (hOk_new hw.1) hn_at (fun ed0 he0 ha0 => ?_)
  rw [hn_set] at ha0 ⊢
  exact hq _ ⟨ed0, ha0, Or.inl rfl⟩ (wOk_new hw) lFr_new rfl rfl
end A
