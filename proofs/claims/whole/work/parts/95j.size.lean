/-! SIZES: the rows of all bounds are at most the values of the filter -/
section F
variable {B : Nat → Nat}
def sT (B : Nat → Nat) (k e : Nat) : Nat := 1 + (if B e = 3 ∨ B e = 4 then (q_pre B k (q_val B e)).length else 0)
theorem pre_len (k v : Nat) : (q_pre B (k + 1) v).length = ((q_box_els B v).map (sT B k)).sum := by
  rw [q_pre_s]
  unfold q_preL
  rw [List.length_flatMap]
  congr 1
  refine List.map_congr_left (fun x _ => ?_)
  unfold sT
  rw [List.length_cons]
  split
  · omega
  · rfl
theorem els_len (k v : Nat) : (q_box_els B v).length ≤ (q_pre B (k + 1) v).length := by
  rw [pre_len, ← sum_1]
  exact sum_mono (fun x _ => by unfold sT; omega)
/-- the members of boxes of members are members -/
theorem pre_sub : ∀ {k v stop : Nat} {row : Bool}, q_box (q_u8 B) B k v stop row = true → ∀ x ∈ q_pre B k v, B x = 3 ∨ B x = 4 → ∀ y ∈ q_box_els B (q_val B x), y ∈ q_pre B k v := by
  intro k
  induction k with
  | zero => intro v stop row h; cases h
  | succ k ih =>
    intro v stop row h x hx h34 y hy
    have hels := box_els h
    rw [q_pre_s] at hx ⊢
    unfold q_preL at hx ⊢
    obtain ⟨w, hw, hx⟩ := List.mem_flatMap.mp hx
    refine List.mem_flatMap.mpr ⟨w, hw, ?_⟩
    rcases List.mem_cons.mp hx with e | e
    · subst e
      rw [if_pos h34]
      obtain ⟨k1, s, r, hb⟩ := hels x hw h34
      obtain ⟨k, rfl⟩ : ∃ j, k = j + 1 := ⟨k - 1, by omega⟩
      refine List.mem_cons_of_mem _ ?_
      rw [q_pre_s]
      exact List.mem_flatMap.mpr ⟨y, hy, List.mem_cons_self⟩
    · by_cases h5 : B w = 3 ∨ B w = 4
      · rw [if_pos h5] at e ⊢
        obtain ⟨k1, s, r, hb⟩ := hels w hw h5
        exact List.mem_cons_of_mem _ (ih hb x e h34 y hy)
      · rw [if_neg h5] at e
        exact absurd e List.not_mem_nil
theorem pre_top {k v stop : Nat} {row : Bool} (h : q_box (q_u8 B) B k v stop row = true) : ∀ x ∈ q_box_els B v, x ∈ q_pre B k v := by
  intro x hx
  have := q_box_pos h
  obtain ⟨k, rfl⟩ : ∃ j, k = j + 1 := ⟨k - 1, by omega⟩
  rw [q_pre_s]
  exact List.mem_flatMap.mpr ⟨x, hx, List.mem_cons_self⟩
variable {ob : Nat → Nat → Int32} {P : Nat → Prop} {O : Nat → Nat}
theorem cls_5 {k : Nat} (h : q_cls k = 5) : k = 4 := by
  unfold q_cls at h
  repeat' split at h
  all_goals omega
theorem items_len (e : Nat) {l : List qR} (h : q_items ob B e = some l) : l.length ≤ (q_box_els B (q_val B e)).length := by
  unfold q_items at h
  split at h
  · cases h
  · cases h
    have : ∀ (L : List Nat) (acc : List qR), (L.foldl (fun acc i => q_insr ob B acc i) acc).length ≤ acc.length + L.length := by
      intro L
      induction L with
      | nil => intro acc; exact Nat.le_refl _
      | cons x L ih =>
        intro acc
        have h1 := ih (q_insr ob B acc x)
        have h2 := q_insr_len ob B acc x
        rw [List.foldl_cons, List.length_cons]
        omega
    have h3 := this (q_box_els B (q_val B e)) []
    rw [List.length_nil, Nat.zero_add] at h3
    exact h3
theorem items_sd (hO : oIs ob P O) (hc : oCl ob B) {e : Nat} (hP : ∀ x ∈ q_box_els B (q_val B e), P x) {l : List qR} (h : q_items ob B e = some l) : rSd P O l ∧ ∀ r ∈ l, r.1.1 ≠ 5 := by
  unfold q_items at h
  split at h
  · cases h
  · rename_i h4
    cases h
    have h4 : ∀ x ∈ q_box_els B (q_val B e), B x ≠ 4 := fun x hx q => h4 (List.any_eq_true.mpr ⟨x, hx, decide_eq_true q⟩)
    have : ∀ (L : List Nat) (acc : List qR), (∀ x ∈ L, P x ∧ B x ≠ 4) → rSd P O acc → (∀ r ∈ acc, ∃ p, (P p ∧ B p ≠ 4) ∧ r = q_pt B p) → rSd P O (L.foldl (fun acc i => q_insr ob B acc i) acc) ∧ ∀ r ∈ L.foldl (fun acc i => q_insr ob B acc i) acc, ∃ p, (P p ∧ B p ≠ 4) ∧ r = q_pt B p := by
      intro L
      induction L with
      | nil => intro acc _ h1 h2; exact ⟨h1, h2⟩
      | cons x L ih =>
        intro acc hL h1 h2
        rw [List.foldl_cons]
        have hx := hL x List.mem_cons_self
        have h3 := insr_sd (B := B) (i := x) hO hc h1 (fun r hr => by
          obtain ⟨p, hp, e⟩ := h2 r hr
          exact ⟨p, hp.1, e⟩) hx.1
        refine ih _ (fun y hy => hL y (List.mem_cons_of_mem x hy)) h3.1 (fun r hr => ?_)
        unfold q_insr at hr
        split at hr
        · exact h2 r hr
        · rcases List.mem_append.mp hr with hr | hr
          · exact h2 r (List.mem_of_mem_take hr)
          · rcases List.mem_cons.mp hr with hr | hr
            · exact ⟨x, hx, hr⟩
            · exact h2 r (List.mem_of_mem_drop hr)
    obtain ⟨h1, h2⟩ := this (q_box_els B (q_val B e)) [] (fun x hx => ⟨hP x hx, h4 x hx⟩) ⟨fun r hr => absurd hr List.not_mem_nil, List.Pairwise.nil⟩ (fun r hr => absurd hr List.not_mem_nil)
    refine ⟨h1, fun r hr => ?_⟩
    obtain ⟨p, hp, e⟩ := h2 r hr
    rw [e]
    exact fun q => hp.2 (cls_5 q)
theorem lo_ok {e i : Nat} (he : P e) (hi : i ≤ 1) : rOk P O ((q_cls (B e), 0, 0, 0), (q_cls (B e), 1, i, e)) := by
  have hc := q_cls_b (B e)
  refine ⟨⟨hc.2, Nat.zero_le _, Nat.zero_le _, fun q => absurd (show (0 : Nat) = 1 from q) (by decide)⟩, ⟨hc.2, (by show (1 : Nat) ≤ 2; decide), hi, fun _ => he⟩, rfl, ?_⟩
  unfold eLo eHi ePos
  simp
  omega
theorem hi_ok (hO : oIs ob P O) {e i : Nat} (he : P e) (hi : i ≤ 1) : rOk P O ((q_cls (B e), 1, i, e), (q_cls (B e), 2, 0, 0)) := by
  have hc := q_cls_b (B e)
  have := hO.1 e he
  refine ⟨⟨hc.2, (by show (1 : Nat) ≤ 2; decide), hi, fun _ => he⟩, ⟨hc.2, Nat.le_refl _, Nat.zero_le _, fun q => absurd (show (2 : Nat) = 1 from q) (by decide)⟩, rfl, ?_⟩
  unfold eLo eHi ePos
  simp
  omega
theorem sd_1 {r : qR} (h : rOk P O r) : rSd P O [r] := ⟨fun s hs => by rw [List.mem_singleton.mp hs]; exact h, List.pairwise_singleton _ _⟩
theorem wb_sd (hO : oIs ob P O) (hc : oCl ob B) {c e : Nat} (he : P e) (hP : c = 2 → ∀ x ∈ q_box_els B (q_val B e), P x) {l : List qR} (h : q_wb ob B c e = some l) : rSd P O l ∧ ∀ r ∈ l, r.1.1 ≠ 5 := by
  unfold q_wb at h
  split at h
  · rename_i h2
    exact items_sd hO hc (hP h2) h
  · split at h
    · cases h
    · rename_i h4
      have h5 : q_cls (B e) ≠ 5 := fun q => h4 (cls_5 q)
      split at h
      · cases h
        exact ⟨sd_1 (pt_ok he), fun r hr => by rw [List.mem_singleton.mp hr]; exact h5⟩
      · split at h
        · cases h
          have hi : q_in c ≤ 1 := by unfold q_in; split <;> omega
          refine ⟨sd_1 ?_, fun r hr => ?_⟩
          · split
            · exact lo_ok he hi
            · exact hi_ok hO he hi
          · rw [List.mem_singleton.mp hr]
            split <;> exact h5
        · cases h
          exact ⟨⟨fun r hr => absurd hr List.not_mem_nil, List.Pairwise.nil⟩, fun r hr => absurd hr List.not_mem_nil⟩
theorem wb_len {c e k : Nat} (hk : c = 2 → (B e = 3 ∨ B e = 4) ∧ 1 ≤ k) {l : List qR} (h : q_wb ob B c e = some l) : l.length ≤ sT B k e := by
  have h1 : 1 ≤ sT B k e := by unfold sT; omega
  unfold q_wb at h
  split at h
  · rename_i h2
    obtain ⟨h34, hk⟩ := hk h2
    obtain ⟨k, rfl⟩ : ∃ j, k = j + 1 := ⟨k - 1, by omega⟩
    have := items_len e h
    have := els_len (B := B) k (q_val B e)
    unfold sT
    rw [if_pos h34]
    omega
  · split at h
    · cases h
    · split at h
      · cases h; exact h1
      · split at h
        · cases h; exact h1
        · cases h; exact Nat.zero_le _
theorem join_sd (hO : oIs ob P O) {st rows : Option (List qR)} (h1 : ∀ l, st = some l → rSd P O l) (h2 : ∀ l, rows = some l → rSd P O l) {l : List qR} (h : q_join2 ob st rows = some l) : rSd P O l ∧ l.length ≤ (st.getD []).length + (rows.getD []).length ∧ ∀ r ∈ l, (∃ s ∈ st.getD [], r.1.1 = s.1.1) ∨ ∃ s ∈ rows.getD [], r.1.1 = s.1.1 := by
  unfold q_join2 at h
  cases rows with
  | none =>
    have h : st = some l := h
    rw [h]
    exact ⟨h1 l h, by simp, fun r hr => Or.inl ⟨r, hr, rfl⟩⟩
  | some b =>
    cases st with
    | none =>
      have h : some b = some l := h
      cases h
      exact ⟨h2 _ rfl, by simp, fun r hr => Or.inr ⟨r, hr, rfl⟩⟩
    | some a =>
      have h : some (q_meet ob a b) = some l := h
      cases h
      have := meet_sd hO (h1 a rfl) (h2 b rfl)
      refine ⟨this.1, meet_len hO (h1 a rfl) (h2 b rfl), fun r hr => Or.inl ?_⟩
      obtain ⟨x, hx, e⟩ := this.2 r hr
      exact ⟨x, hx, e⟩
/-- the conditions of an $elem up to some place -/
theorem we_pre (hO : oIs ob P O) (hc : oCl ob B) {k : Nat} : ∀ (L : List Nat) (st : Option (List qR)) (c0 : Nat), (∀ x ∈ L, P x ∧ (q_nof (q_word B x) = 2 → (B x = 3 ∨ B x = 4) ∧ 1 ≤ k ∧ ∀ y ∈ q_box_els B (q_val B x), P y)) → (∀ l, st = some l → rSd P O l ∧ (∀ r ∈ l, r.1.1 ≠ 5) ∧ l.length ≤ c0) → ∀ l, L.foldl (q_wstep ob B) st = some l → rSd P O l ∧ (∀ r ∈ l, r.1.1 ≠ 5) ∧ l.length ≤ c0 + (L.map (sT B k)).sum := by
  intro L
  induction L with
  | nil => intro st c0 _ h l hl; exact h l hl
  | cons x L ih =>
    intro st c0 hL h l hl
    rw [List.foldl_cons] at hl
    obtain ⟨hx, hx2⟩ := hL x List.mem_cons_self
    have := ih _ (c0 + sT B k x) (fun y hy => hL y (List.mem_cons_of_mem x hy)) (fun l1 h1 => ?_) l hl
    · rw [List.map_cons, List.sum_cons]
      exact ⟨this.1, this.2.1, by omega⟩
    · unfold q_wstep at h1
      split at h1
      · have hw : ∀ l, q_wb ob B (q_nof (q_word B x)) x = some l → (rSd P O l ∧ ∀ r ∈ l, r.1.1 ≠ 5) ∧ l.length ≤ sT B k x := fun l q => ⟨wb_sd hO hc hx (fun z => (hx2 z).2.2) q, wb_len (fun z => ⟨(hx2 z).1, (hx2 z).2.1⟩) q⟩
        have hj := join_sd hO (fun l q => (h l q).1) (fun l q => (hw l q).1.1) h1
        have g1 : (st.getD []).length ≤ c0 ∧ ∀ s ∈ st.getD [], s.1.1 ≠ 5 := by
          cases st with
          | none => exact ⟨Nat.zero_le _, fun s hs => absurd hs List.not_mem_nil⟩
          | some a => exact ⟨(h a rfl).2.2, (h a rfl).2.1⟩
        have g2 : ((q_wb ob B (q_nof (q_word B x)) x).getD []).length ≤ sT B k x ∧ ∀ s ∈ (q_wb ob B (q_nof (q_word B x)) x).getD [], s.1.1 ≠ 5 := by
          cases hq : q_wb ob B (q_nof (q_word B x)) x with
          | none => exact ⟨Nat.zero_le _, fun s hs => absurd hs List.not_mem_nil⟩
          | some a => exact ⟨(hw a hq).2, (hw a hq).1.2⟩
        refine ⟨hj.1, fun r hr => ?_, by omega⟩
        rcases hj.2.2 r hr with ⟨s, hs, e⟩ | ⟨s, hs, e⟩
        · rw [e]; exact g1.2 s hs
        · rw [e]; exact g2.2 s hs
      · have := h l1 h1
        exact ⟨this.1, this.2.1, by omega⟩
/-- the bounds of one condition -/
theorem bnd_sd (hO : oIs ob P O) (hc : oCl ob B) {k : Nat} {z : Nat × Nat × Nat} (hz : zOk B z) (he : P z.2.2) (hk : B z.2.2 = 3 ∨ B z.2.2 = 4 → ∃ s r, q_box (q_u8 B) B k (q_val B z.2.2) s r = true) (hsub : ∀ x, P x → B x = 3 ∨ B x = 4 → ∀ y ∈ q_box_els B (q_val B x), P y) {l : List qR} (h : q_bnd ob B z.2 = some l) : rSd P O l ∧ l.length ≤ sT B k z.2.2 := by
  unfold q_bnd at h
  split at h
  · rename_i h7
    have h3 := ofi_3 (hz.2.2.2 h7).1
    obtain ⟨s, r, hb⟩ := hk (Or.inl h3)
    have hk1 := q_box_pos hb
    obtain ⟨k, rfl⟩ : ∃ j, k = j + 1 := ⟨k - 1, by omega⟩
    have hels := box_els hb
    unfold q_we at h
    cases hw : q_we0 ob B z.2.2 with
    | none => rw [hw] at h; cases h
    | some l0 =>
      rw [hw] at h
      have h : some (q_addr l0) = some l := h
      cases h
      have hq := we_pre (k := k) hO hc (q_box_els B (q_val B z.2.2)) none 0 (fun x hx => ⟨hsub _ he (Or.inl h3) x hx, fun q => by
        have h4 := ((hz.2.2.2 h7).2 x hx).2 q
        exact ⟨Or.inr h4, (hels x hx (Or.inr h4)).1, hsub x (hsub _ he (Or.inl h3) x hx) (Or.inr h4)⟩⟩) (fun l q => by cases q) l0 hw
      have ha := addr_sd hO hq.1 hq.2.1
      refine ⟨ha.1, ?_⟩
      rw [ha.2.1]
      unfold sT
      rw [if_pos (Or.inl h3), pre_len]
      omega
  · refine ⟨(wb_sd hO hc he (fun q => hsub _ he (Or.inr (hz.2.2.1 q))) h).1, wb_len (fun q => ⟨Or.inr (hz.2.2.1 q), ?_⟩) h⟩
    obtain ⟨s, r, hb⟩ := hk (Or.inr (hz.2.2.1 q))
    exact q_box_pos hb
end F
