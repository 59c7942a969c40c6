/-! the rows of a path's bounds -/
section V
variable {B C : Nat → Nat}
theorem V_bxs2 {og : Nat → Nat → Int32} (hog : ∀ x y, q_V (og x y)) (L M : Nat) : ∀ g e f, q_V (q_bxs og B C L M g e f) := by
  intro g
  induction g with
  | zero => intro e f; exact Or.inr (Or.inl rfl)
  | succ g ih =>
    intro e f
    unfold q_bxs
    split
    · split
      · split
        · exact ih _ _
        · exact V_lex (V_lex (V_c3 _ _) (V_bytes _ _ _ _)) (hog _ _)
      · exact Or.inr (Or.inr rfl)
    · split
      · exact Or.inl rfl
      · exact Or.inr (Or.inl rfl)
theorem V_ord2 : ∀ k e f, q_V (q_ord B C k e f) := by
  intro k
  induction k with
  | zero => intro e f; exact Or.inr (Or.inl rfl)
  | succ k ih =>
    intro e f
    unfold q_ord
    split
    · exact V_c3 _ _
    · split
      · exact V_c64 _ _
      · split
        · exact V_bytes _ _ _ _
        · split
          · exact V_bxs2 ih _ _ _ _ _
          · exact Or.inr (Or.inl rfl)
end V
section K
variable {ob : Nat → Nat → Int32} {B O : Nat → Nat} {P : Nat → Prop}
/-- low ends are no ends of classes, high ends no beginnings -/
def rLH (r : qR) : Prop := r.1.2.1 ≤ 1 ∧ 1 ≤ r.2.2.1
theorem insr_mem {l : List qR} {i : Nat} : ∀ r ∈ q_insr ob B l i, r = q_pt B i ∨ r ∈ l := by
  intro r hr
  unfold q_insr at hr
  split at hr
  · exact Or.inr hr
  · rcases List.mem_append.mp hr with hr | hr
    · exact Or.inr (List.mem_of_mem_take hr)
    · rcases List.mem_cons.mp hr with hr | hr
      · exact Or.inl hr
      · exact Or.inr (List.mem_of_mem_drop hr)
theorem pt_lh (i : Nat) : rLH (q_pt B i) := ⟨Nat.le_refl _, Nat.le_refl _⟩
theorem meet_lh {a b : List qR} (ha : ∀ r ∈ a, rLH r) (hb : ∀ r ∈ b, rLH r) : ∀ r ∈ q_meet ob a b, rLH r := by
  intro r hr
  obtain ⟨x, hx, hr⟩ := List.mem_flatMap.mp hr
  obtain ⟨y, hy, hr⟩ := List.mem_filterMap.mp hr
  have h1 := ha x hx
  have h2 := hb y hy
  unfold q_met at hr
  split at hr
  · cases hr
    unfold q_mlow q_mhigh rLH
    constructor
    · show (if _ then _ else _ : qE).2.1 ≤ 1
      split
      · exact h2.1
      · exact h1.1
    · show 1 ≤ (if _ then _ else _ : qE).2.1
      split
      · exact h2.2
      · exact h1.2
  · cases hr
theorem wb_lh {c e : Nat} {l : List qR} (h : q_wb ob B c e = some l) : ∀ r ∈ l, rLH r := by
  unfold q_wb at h
  split at h
  · unfold q_items at h
    split at h
    · cases h
    · cases h
      have : ∀ (L : List Nat) (acc : List qR), (∀ r ∈ acc, rLH r) → ∀ r ∈ L.foldl (fun acc i => q_insr ob B acc i) acc, rLH r := by
        intro L
        induction L with
        | nil => intro acc h; exact h
        | cons x L ih =>
          intro acc h
          rw [List.foldl_cons]
          refine ih _ (fun r hr => ?_)
          rcases insr_mem r hr with q | q
          · rw [q]; exact pt_lh x
          · exact h r q
      exact this _ [] (fun r hr => absurd hr List.not_mem_nil)
  · split at h
    · cases h
    · split at h
      · cases h
        intro r hr
        rw [List.mem_singleton.mp hr]
        exact pt_lh e
      · split at h
        · cases h
          intro r hr
          rw [List.mem_singleton.mp hr]
          split
          · exact ⟨Nat.zero_le _, Nat.le_refl _⟩
          · exact ⟨Nat.le_refl _, Nat.le_succ _⟩
        · cases h
          intro r hr
          exact absurd hr List.not_mem_nil
theorem join_lh {st rows : Option (List qR)} (h1 : ∀ l, st = some l → ∀ r ∈ l, rLH r) (h2 : ∀ l, rows = some l → ∀ r ∈ l, rLH r) {l : List qR} (h : q_join2 ob st rows = some l) : ∀ r ∈ l, rLH r := by
  unfold q_join2 at h
  cases rows with
  | none => exact h1 l h
  | some b =>
    cases st with
    | none =>
      have h : some b = some l := h
      cases h
      exact h2 _ rfl
    | some a =>
      have h : some (q_meet ob a b) = some l := h
      cases h
      exact meet_lh (h1 a rfl) (h2 b rfl)
theorem addr_lh : ∀ {l : List qR}, (∀ r ∈ l, rLH r) → ∀ r ∈ q_addr l, rLH r := by
  intro l
  induction l with
  | nil =>
    intro _ r hr
    rw [List.mem_singleton.mp hr]
    exact ⟨Nat.zero_le _, Nat.le_succ _⟩
  | cons x l ih =>
    intro h r hr
    rw [show q_addr (x :: l) = if 5 < x.1.1 then q_rr :: x :: l else x :: q_addr l from rfl] at hr
    split at hr
    · rcases List.mem_cons.mp hr with q | q
      · rw [q]
        exact ⟨Nat.zero_le _, Nat.le_succ _⟩
      · exact h r q
    · rcases List.mem_cons.mp hr with q | q
      · rw [q]; exact h x List.mem_cons_self
      · exact ih (fun y hy => h y (List.mem_cons_of_mem x hy)) r q
theorem bnd_lh {ce : Nat × Nat} {l : List qR} (h : q_bnd ob B ce = some l) : ∀ r ∈ l, rLH r := by
  unfold q_bnd at h
  split at h
  · unfold q_we at h
    cases hw : q_we0 ob B ce.2 with
    | none => rw [hw] at h; cases h
    | some l0 =>
      rw [hw] at h
      have h : some (q_addr l0) = some l := h
      cases h
      refine addr_lh ?_
      have : ∀ (L : List Nat) (st : Option (List qR)), (∀ l, st = some l → ∀ r ∈ l, rLH r) → ∀ l, L.foldl (q_wstep ob B) st = some l → ∀ r ∈ l, rLH r := by
        intro L
        induction L with
        | nil => intro st h; exact h
        | cons x L ih =>
          intro st h
          rw [List.foldl_cons]
          refine ih _ (fun l hl => ?_)
          unfold q_wstep at hl
          split at hl
          · exact join_lh h (fun l q => wb_lh q) hl
          · exact h l hl
      exact this _ none (fun l q => by cases q) l0 hw
  · exact wb_lh h
theorem fall_lh {K : List (Nat × Nat)} {l : List qR} (h : q_fall ob B K = some l) : ∀ r ∈ l, rLH r := by
  have : ∀ (K : List (Nat × Nat)) (st : Option (List qR)), (∀ l, st = some l → ∀ r ∈ l, rLH r) → ∀ l, K.foldl (fun st ce => q_join2 ob st (q_bnd ob B ce)) st = some l → ∀ r ∈ l, rLH r := by
    intro K
    induction K with
    | nil => intro st h; exact h
    | cons x K ih =>
      intro st h
      rw [List.foldl_cons]
      exact ih _ (fun l hl => join_lh h (fun l q => bnd_lh q) hl)
  exact this K none (fun l q => by cases q) l h
theorem fst_mem {p : Nat × Nat → Bool} : ∀ {K : List (Nat × Nat)} {l : List qR}, q_fst ob B p K = some l → ∃ ce ∈ K, q_bnd ob B ce = some l := by
  intro K
  induction K with
  | nil => intro l h; cases h
  | cons x K ih =>
    intro l h
    rw [q_fst_c] at h
    split at h
    · exact ⟨x, List.mem_cons_self, h⟩
    · obtain ⟨ce, h1, h2⟩ := ih h
      exact ⟨ce, List.mem_cons_of_mem x h1, h2⟩
theorem fone_mem {K : List (Nat × Nat)} {l : List qR} (h : q_fone ob B K = some l) : ∃ ce ∈ K, q_bnd ob B ce = some l := by
  rw [fone_is] at h
  split at h
  · exact fst_mem h
  · exact fst_mem h
/-- the rows that are found -/
theorem find_ok {n : Nat} {p : qP} {R : List qR} (hb : q_box (q_u8 B) B 16 0 n false = true) (hrow : q_row B n) (hf : (q_flt B 16 false 0 0).1 = 0) (hO : oIs (q_ord B B 17) (fun x => x ∈ q_pre B 16 0) O) (h : q_find B p = some R) : rSd (fun x => x ∈ q_pre B 16 0) O R ∧ R.length ≤ 997 ∧ ∀ r ∈ R, rLH r := by
  have hl := pre_1000 hrow hb
  obtain ⟨-, -, -, g1, g2⟩ := filt_ok hb hf hO
  have hcol := colA_col (B := B) p.1.2 p.1.1 16 0
  have hmem : ∀ ce ∈ q_col B p.1.2 p.1.1 16 0, ∃ z ∈ q_colA B 16 0, z.2 = ce := by
    intro ce h
    rw [hcol] at h
    obtain ⟨z, hz, e⟩ := List.mem_map.mp h
    exact ⟨z, (List.mem_filter.mp hz).1, e⟩
  unfold q_find at h
  split at h
  · obtain ⟨ce, h1, h2⟩ := fone_mem h
    obtain ⟨z, hz, rfl⟩ := hmem ce h1
    have a := g1 z hz
    have := a.2.2.1 R h2
    have := a.2.2.2.1
    exact ⟨(a.2.2.1 R h2).1, by omega, bnd_lh h2⟩
  · have hfs := fold_sd hO (q_col B p.1.2 p.1.1 16 0) none 0 (fun ce h => by
      obtain ⟨z, hz, rfl⟩ := hmem ce h
      exact fun l q => ((g1 z hz).2.2.1 l q).1) (fun l q => by cases q) R h
    refine ⟨hfs.1, ?_, fall_lh h⟩
    have e1 : ((q_col B p.1.2 p.1.1 16 0).map (fun ce => ((q_bnd (q_ord B B 17) B ce).getD []).length)).sum ≤ ((q_colA B 16 0).map (zS B)).sum := by
      rw [hcol, List.map_map]
      refine Nat.le_trans (sum_filter _ _ _) (sum_mono (fun z hz => ?_))
      show ((q_bnd (q_ord B B 17) B z.2).getD []).length ≤ _
      cases hq : q_bnd (q_ord B B 17) B z.2 with
      | none => exact Nat.zero_le _
      | some l => exact ((g1 z hz).2.2.1 l hq).2
    omega
end K
