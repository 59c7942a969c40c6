/-! THE ORDER IS TOTAL -/
def q_V (x : Int32) : Prop := x = -1 ∨ x = 0 ∨ x = 1
def q_G (a b c : Int32) : Prop := (a = 0 → c = b) ∧ (b = 0 → c = a) ∧ (a = b → c = a)
theorem G_lex {a b c a' b' c' : Int32} (h : q_G a b c) (h' : q_G a' b' c') : q_G (q_lex a a') (q_lex b b') (q_lex c c') := by
  obtain ⟨h1, h2, h3⟩ := h
  obtain ⟨k1, k2, k3⟩ := h'
  unfold q_lex
  by_cases ha : a = 0
  · have hc := h1 ha
    by_cases hb : b = 0
    · rw [if_pos ha, if_pos hb, if_pos (by rw [hc]; exact hb)]
      exact ⟨k1, k2, k3⟩
    · rw [if_pos ha, if_neg hb, if_neg (by rw [hc]; exact hb), hc]
      exact ⟨fun _ => rfl, fun q => absurd q hb, fun q => q.symm⟩
  · by_cases hb : b = 0
    · have hc := h2 hb
      rw [if_neg ha, if_pos hb, if_neg (by rw [hc]; exact ha), hc]
      exact ⟨fun q => absurd q ha, fun _ => rfl, fun _ => rfl⟩
    · rw [if_neg ha, if_neg hb]
      refine ⟨fun q => absurd q ha, fun q => absurd q hb, fun q => ?_⟩
      have hc := h3 q
      rw [if_neg (by rw [hc]; exact ha), hc]
theorem V_lex {a b : Int32} (h : q_V a) (h' : q_V b) : q_V (q_lex a b) := by
  unfold q_lex
  split
  · exact h'
  · exact h
theorem V_c3 (x y : Nat) : q_V (q_c3 x y) := by
  unfold q_c3
  split
  · exact Or.inl rfl
  · split
    · exact Or.inr (Or.inl rfl)
    · exact Or.inr (Or.inr rfl)
theorem c3_lt {x y : Nat} : q_c3 x y = -1 ↔ x < y := by
  unfold q_c3
  split
  · exact ⟨fun _ => ‹_›, fun _ => rfl⟩
  · split
    · exact ⟨fun q => absurd q (by decide), fun q => by omega⟩
    · exact ⟨fun q => absurd q (by decide), fun q => by omega⟩
theorem c3_gt {x y : Nat} : q_c3 x y = 1 ↔ y < x := by
  unfold q_c3
  split
  · exact ⟨fun q => absurd q (by decide), fun q => by omega⟩
  · split
    · exact ⟨fun q => absurd q (by decide), fun q => by omega⟩
    · exact ⟨fun _ => by omega, fun _ => rfl⟩
theorem G_c3 (x y z : Nat) : q_G (q_c3 x y) (q_c3 y z) (q_c3 x z) := by
  refine ⟨fun q => by rw [q_c3_0.mp q], fun q => by rw [q_c3_0.mp q], fun q => ?_⟩
  rcases V_c3 x y with h | h | h
  · rw [h] at q ⊢
    have h1 := c3_lt.mp h
    have h2 := c3_lt.mp q.symm
    exact c3_lt.mpr (by omega)
  · rw [h] at q ⊢
    have h1 := q_c3_0.mp h
    have h2 := q_c3_0.mp q.symm
    exact q_c3_0.mpr (by omega)
  · rw [h] at q ⊢
    have h1 := c3_gt.mp h
    have h2 := c3_gt.mp q.symm
    exact c3_gt.mpr (by omega)
theorem q_c64_is (x y : Int64) : (q_c64 x y = -1 ∧ x < y) ∨ (q_c64 x y = 0 ∧ x = y) ∨ (q_c64 x y = 1 ∧ y < x) := by
  unfold q_c64
  by_cases h1 : x < y
  · rw [if_pos h1]
    exact Or.inl ⟨rfl, h1⟩
  · rw [if_neg h1]
    by_cases h2 : x = y
    · rw [if_pos h2]
      exact Or.inr (Or.inl ⟨rfl, h2⟩)
    · rw [if_neg h2]
      exact Or.inr (Or.inr ⟨rfl, Int64.lt_of_le_of_ne (Int64.not_lt.mp h1) (Ne.symm h2)⟩)
theorem G_c64 (x y z : Int64) : q_G (q_c64 x y) (q_c64 y z) (q_c64 x z) := by
  refine ⟨fun q => ?_, fun q => ?_, fun q => ?_⟩
  · rcases q_c64_is x y with h | h | h
    · rw [h.1] at q; exact absurd q (by decide)
    · rw [h.2]
    · rw [h.1] at q; exact absurd q (by decide)
  · rcases q_c64_is y z with h | h | h
    · rw [h.1] at q; exact absurd q (by decide)
    · rw [h.2]
    · rw [h.1] at q; exact absurd q (by decide)
  · rcases q_c64_is x y with h | h | h
    · rw [h.1] at q ⊢
      rcases q_c64_is y z with k | k | k
      · exact if_pos (Int64.lt_trans h.2 k.2)
      · rw [k.1] at q; exact absurd q (by decide)
      · rw [k.1] at q; exact absurd q (by decide)
    · rw [h.2] at q ⊢
      rw [← h.2] at q
      rw [h.2] at q
      exact q.symm
    · rw [h.1] at q ⊢
      rcases q_c64_is y z with k | k | k
      · rw [k.1] at q; exact absurd q (by decide)
      · rw [k.1] at q; exact absurd q (by decide)
      · have hz := Int64.lt_trans k.2 h.2
        unfold q_c64
        rw [if_neg (Int64.not_lt.mpr (Int64.le_of_lt hz)), if_neg (fun q => by rw [q] at hz; exact Int64.lt_irrefl hz)]
theorem V_c64 (x y : Int64) : q_V (q_c64 x y) := by
  rcases q_c64_is x y with h | h | h
  · exact Or.inl h.1
  · exact Or.inr (Or.inl h.1)
  · exact Or.inr (Or.inr h.1)
def q_lx (F : Nat → Int32) : Nat → Nat → Int32
  | 0, _ => 0
  | k + 1, i => q_lex (F i) (q_lx F k (i + 1))
def q_bv (A : Nat → Nat) (n i : Nat) : Nat := if i < n then A i + 1 else 0
theorem q_lx_0 {F : Nat → Int32} : ∀ {k i : Nat}, (∀ j, i ≤ j → F j = 0) → q_lx F k i = 0 := by
  intro k
  induction k with
  | zero => intro i _; rfl
  | succ k ih =>
    intro i h
    unfold q_lx q_lex
    rw [if_pos (h i (Nat.le_refl _))]
    exact ih (fun j hj => h j (by omega))
theorem q_by_lx (A B : Nat → Nat) (n m : Nat) : ∀ k i K, k + i = min n m → max n m ≤ K + i → q_by A B n m k i = q_lx (fun i => q_c3 (q_bv A n i) (q_bv B m i)) K i := by
  intro k
  induction k with
  | zero =>
    intro i K h1 h2
    unfold q_by
    rcases Nat.lt_trichotomy n m with h | h | h
    · obtain ⟨K, rfl⟩ : ∃ K', K = K' + 1 := ⟨K - 1, by omega⟩
      have e : q_c3 (q_bv A n i) (q_bv B m i) = -1 := by
        unfold q_bv
        rw [if_neg (by omega), if_pos (by omega)]
        exact c3_lt.mpr (by omega)
      unfold q_lx q_lex
      simp only [e]
      rw [if_neg (by decide)]
      exact c3_lt.mpr h
    · rw [q_lx_0 (fun j hj => ?_)]
      · exact q_c3_0.mpr h
      · show q_c3 (q_bv A n j) (q_bv B m j) = 0
        unfold q_bv
        rw [if_neg (by omega), if_neg (by omega)]
        exact q_c3_0.mpr rfl
    · obtain ⟨K, rfl⟩ : ∃ K', K = K' + 1 := ⟨K - 1, by omega⟩
      have e : q_c3 (q_bv A n i) (q_bv B m i) = 1 := by
        unfold q_bv
        rw [if_pos (by omega), if_neg (by omega)]
        exact c3_gt.mpr (by omega)
      unfold q_lx q_lex
      simp only [e]
      rw [if_neg (by decide)]
      exact c3_gt.mpr h
  | succ k ih =>
    intro i K h1 h2
    obtain ⟨K, rfl⟩ : ∃ K', K = K' + 1 := ⟨K - 1, by omega⟩
    have e : q_c3 (q_bv A n i) (q_bv B m i) = q_c3 (A i) (B i) := by
      unfold q_bv
      rw [if_pos (by omega), if_pos (by omega)]
      unfold q_c3
      simp
    unfold q_by q_lx q_lex
    simp only [e]
    by_cases hab : A i = B i
    · rw [if_pos hab, if_pos (q_c3_0.mpr hab)]
      exact ih (i + 1) K (by omega) (by omega)
    · rw [if_neg hab, if_neg (fun q => hab (q_c3_0.mp q))]
theorem q_bytes_lx {A B : Nat → Nat} {n m K : Nat} (hK : max n m ≤ K) : q_bytes A n B m = q_lx (fun i => q_c3 (q_bv A n i) (q_bv B m i)) K 0 := q_by_lx A B n m _ 0 K (by omega) (by omega)
theorem G_lx {F1 F2 F3 : Nat → Int32} (h : ∀ i, q_G (F1 i) (F2 i) (F3 i)) : ∀ k i, q_G (q_lx F1 k i) (q_lx F2 k i) (q_lx F3 k i) := by
  intro k
  induction k with
  | zero => intro i; exact ⟨fun _ => rfl, fun _ => rfl, fun _ => rfl⟩
  | succ k ih =>
    intro i
    exact G_lex (h i) (ih (i + 1))
theorem V_lx {F : Nat → Int32} (h : ∀ i, q_V (F i)) : ∀ k i, q_V (q_lx F k i) := by
  intro k
  induction k with
  | zero => intro i; exact Or.inr (Or.inl rfl)
  | succ k ih => intro i; exact V_lex (h i) (ih _)
theorem G_bytes (A B C : Nat → Nat) (n m l : Nat) : q_G (q_bytes A n B m) (q_bytes B m C l) (q_bytes A n C l) := by
  rw [q_bytes_lx (K := max n (max m l)) (by omega), q_bytes_lx (K := max n (max m l)) (by omega), q_bytes_lx (K := max n (max m l)) (by omega)]
  exact G_lx (fun i => G_c3 _ _ _) _ _
theorem V_bytes (A B : Nat → Nat) (n m : Nat) : q_V (q_bytes A n B m) := by
  rw [q_bytes_lx (Nat.le_refl _)]
  exact V_lx (fun i => V_c3 _ _) _ _
section O
variable {B : Nat → Nat}
def q_X (B : Nat → Nat) (og : Nat → Nat → Int32) (e f : Nat) : Int32 := q_lex (q_lex (q_c3 (q_cls (B e)) (q_cls (B f))) (q_nmc B e B f)) (og e f)
theorem q_bxs_s (og : Nat → Nat → Int32) (L M g e f : Nat) : q_bxs og B B L M (g + 1) e f = if e < L then (if f < M then q_lex (q_X B og e f) (q_bxs og B B L M g (q_next B e) (q_next B f)) else 1) else if f < M then -1 else 0 := rfl
theorem G_bxs {og : Nat → Nat → Int32} (hog : ∀ x y z, q_G (og x y) (og y z) (og x z)) (L M K : Nat) : ∀ g e f h, q_G (q_bxs og B B L M g e f) (q_bxs og B B M K g f h) (q_bxs og B B L K g e h) := by
  intro g
  induction g with
  | zero => intro e f h; exact ⟨fun _ => rfl, fun _ => rfl, fun _ => rfl⟩
  | succ g ih =>
    intro e f h
    rw [q_bxs_s, q_bxs_s, q_bxs_s]
    by_cases h1 : e < L <;> by_cases h2 : f < M <;> by_cases h3 : h < K
    · rw [if_pos h1, if_pos h2, if_pos h2, if_pos h3, if_pos h1, if_pos h3]
      exact G_lex (G_lex (G_lex (G_c3 _ _ _) (G_bytes _ _ _ _ _ _)) (hog _ _ _)) (ih _ _ _)
    · rw [if_pos h1, if_pos h2, if_pos h2, if_neg h3, if_pos h1, if_neg h3]
      exact ⟨fun _ => rfl, fun q => absurd q (by decide), fun q => q.symm⟩
    · rw [if_pos h1, if_neg h2, if_neg h2, if_pos h3]
      exact ⟨fun q => absurd q (by decide), fun q => absurd q (by decide), fun q => absurd q (by decide)⟩
    · rw [if_pos h1, if_neg h2, if_neg h2, if_neg h3, if_pos h1, if_neg h3]
      exact ⟨fun q => absurd q (by decide), fun _ => rfl, fun _ => rfl⟩
    · rw [if_neg h1, if_pos h2, if_pos h2, if_pos h3, if_neg h1, if_pos h3]
      exact ⟨fun q => absurd q (by decide), fun _ => rfl, fun _ => rfl⟩
    · rw [if_neg h1, if_pos h2, if_pos h2, if_neg h3]
      exact ⟨fun q => absurd q (by decide), fun q => absurd q (by decide), fun q => absurd q (by decide)⟩
    · rw [if_neg h1, if_neg h2, if_neg h2, if_pos h3, if_neg h1]
      exact ⟨fun _ => rfl, fun q => absurd q (by decide), fun q => absurd q (by decide)⟩
    · rw [if_neg h1, if_neg h2, if_neg h2, if_neg h3, if_neg h1]
      exact ⟨fun _ => rfl, fun _ => rfl, fun _ => rfl⟩
theorem V_bxs {og : Nat → Nat → Int32} (hog : ∀ x y, q_V (og x y)) (L M : Nat) : ∀ g e f, q_V (q_bxs og B B L M g e f) := by
  intro g
  induction g with
  | zero => intro e f; exact Or.inr (Or.inl rfl)
  | succ g ih =>
    intro e f
    rw [q_bxs_s]
    split
    · split
      · exact V_lex (V_lex (V_lex (V_c3 _ _) (V_bytes _ _ _ _)) (hog _ _)) (ih _ _)
      · exact Or.inr (Or.inr rfl)
    · split
      · exact Or.inl rfl
      · exact Or.inr (Or.inl rfl)
theorem R_bxs {og : Nat → Nat → Int32} (hog : ∀ x, og x x = 0) (L : Nat) : ∀ g e, q_bxs og B B L L g e e = 0 := by
  intro g
  induction g with
  | zero => intro e; rfl
  | succ g ih =>
    intro e
    rw [q_bxs_s]
    split
    · unfold q_X q_nmc
      rw [q_c3_0.mpr rfl, q_bytes_0.mpr ⟨rfl, fun _ _ => rfl⟩, hog, ih]
      rfl
    · rfl
theorem V_ord : ∀ k e f, q_V (q_ord B B k e f) := by
  intro k
  induction k with
  | zero => intro e f; exact Or.inr (Or.inl rfl)
  | succ k ih =>
    intro e f
    unfold q_ord
    split
    · exact V_c3 _ _
    · split
      · exact V_c64 _ _
      · split
        · exact V_bytes _ _ _ _
        · split
          · exact V_bxs ih _ _ _ _ _
          · exact Or.inr (Or.inl rfl)
theorem R_ord : ∀ k e, q_ord B B k e e = 0 := by
  intro k
  induction k with
  | zero => intro e; rfl
  | succ k ih =>
    intro e
    unfold q_ord
    rw [if_neg (fun q => q rfl)]
    split
    · unfold q_c64
      rw [if_neg Int64.lt_irrefl, if_pos rfl]
    · split
      · exact q_bytes_0.mpr ⟨rfl, fun _ _ => rfl⟩
      · split
        · exact R_bxs ih _ _ _
        · rfl
theorem G_ord : ∀ k e f h, q_G (q_ord B B k e f) (q_ord B B k f h) (q_ord B B k e h) := by
  intro k
  induction k with
  | zero => intro e f h; exact ⟨fun _ => rfl, fun _ => rfl, fun _ => rfl⟩
  | succ k ih =>
    intro e f h
    unfold q_ord
    by_cases h1 : q_cls (B e) = q_cls (B f)
    · by_cases h2 : q_cls (B f) = q_cls (B h)
      · have h3 : q_cls (B e) = q_cls (B h) := h1.trans h2
        rw [if_neg (show ¬ q_cls (B e) ≠ q_cls (B f) from fun q => q h1), if_neg (show ¬ q_cls (B f) ≠ q_cls (B h) from fun q => q h2), if_neg (show ¬ q_cls (B e) ≠ q_cls (B h) from fun q => q h3), ← h1]
        by_cases a1 : q_cls (B e) = 2 ∨ q_cls (B e) = 6
        · rw [if_pos a1, if_pos a1, if_pos a1]
          exact G_c64 _ _ _
        rw [if_neg a1, if_neg a1, if_neg a1]
        by_cases a2 : q_cls (B e) = 3
        · rw [if_pos a2, if_pos a2, if_pos a2]
          exact G_bytes _ _ _ _ _ _
        rw [if_neg a2, if_neg a2, if_neg a2]
        by_cases a3 : q_cls (B e) = 4 ∨ q_cls (B e) = 5
        · rw [if_pos a3, if_pos a3, if_pos a3]
          exact G_bxs ih _ _ _ _ _ _ _
        rw [if_neg a3, if_neg a3, if_neg a3]
        exact ⟨fun _ => rfl, fun _ => rfl, fun _ => rfl⟩
      · have h3 : q_cls (B e) ≠ q_cls (B h) := fun q => h2 (h1.symm.trans q)
        have hb : q_c3 (q_cls (B f)) (q_cls (B h)) ≠ 0 := fun q => h2 (q_c3_0.mp q)
        rw [if_pos h2, if_pos h3, ← h1]
        rw [← h1] at hb
        exact ⟨fun _ => rfl, fun q => absurd q hb, fun q => q.symm⟩
    · have ha : q_c3 (q_cls (B e)) (q_cls (B f)) ≠ 0 := fun q => h1 (q_c3_0.mp q)
      rw [if_pos h1]
      by_cases h2 : q_cls (B f) = q_cls (B h)
      · have h3 : q_cls (B e) ≠ q_cls (B h) := fun q => h1 (q.trans h2.symm)
        rw [if_pos h3, ← h2]
        exact ⟨fun q => absurd q ha, fun _ => rfl, fun _ => rfl⟩
      · have hb : q_c3 (q_cls (B f)) (q_cls (B h)) ≠ 0 := fun q => h2 (q_c3_0.mp q)
        rw [if_pos h2]
        refine ⟨fun q => absurd q ha, fun q => absurd q hb, fun q => ?_⟩
        have hc := (G_c3 (q_cls (B e)) (q_cls (B f)) (q_cls (B h))).2.2 q
        have h3 : q_cls (B e) ≠ q_cls (B h) := fun q2 => ha (by rw [← hc]; exact q_c3_0.mpr q2)
        rw [if_pos h3]
        exact hc
end O
/-! what the three say of a comparison -/
def qTot (f : Nat → Nat → Int32) : Prop := (∀ x y, q_V (f x y)) ∧ (∀ x, f x x = 0) ∧ ∀ x y z, q_G (f x y) (f y z) (f x z)
theorem q_tot (B : Nat → Nat) (k : Nat) : qTot (q_ord B B k) := ⟨V_ord k, R_ord k, G_ord k⟩
theorem tot_sw {f : Nat → Nat → Int32} (T : qTot f) {x y : Nat} : (f x y = 0 → f y x = 0) ∧ (f x y = 1 → f y x = -1) ∧ (f x y = -1 → f y x = 1) := by
  obtain ⟨g1, g2, g3⟩ := T.2.2 x y x
  rw [T.2.1 x] at g1 g2 g3
  refine ⟨fun q => (g1 q).symm, fun q => ?_, fun q => ?_⟩
  · rcases T.1 y x with h | h | h
    · exact h
    · rw [← g2 h] at q; exact absurd q (by decide)
    · have := g3 (q.trans h.symm); rw [q] at this; exact absurd this (by decide)
  · rcases T.1 y x with h | h | h
    · have := g3 (q.trans h.symm); rw [q] at this; exact absurd this (by decide)
    · rw [← g2 h] at q; exact absurd q (by decide)
    · exact h
/-- not greater, and not greater -/
theorem tot_le {f : Nat → Nat → Int32} (T : qTot f) {x y z : Nat} (h1 : f x y ≠ 1) (h2 : f y z ≠ 1) : f x z ≠ 1 ∧ (f x z = 0 → f x y = 0 ∧ f y z = 0) := by
  obtain ⟨g1, g2, g3⟩ := T.2.2 x y z
  rcases T.1 x y with a | a | a
  · rcases T.1 y z with b | b | b
    · have := g3 (a.trans b.symm)
      rw [this, a]
      exact ⟨by decide, fun q => absurd q (by decide)⟩
    · have := g2 b
      rw [this, a]
      exact ⟨by decide, fun q => absurd q (by decide)⟩
    · exact absurd b h2
  · have := g1 a
    rw [this]
    exact ⟨h2, fun q => ⟨a, q⟩⟩
  · exact absurd a h1
