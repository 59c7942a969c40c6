/-! WHAT A FILTER WITHOUT FAULT HAS -/
def oRk (ob : Nat → Nat → Int32) (L : List Nat) (x : Nat) : Nat := L.countP (fun y => decide (ob y x = -1))
theorem cntP_le {p q : Nat → Bool} : ∀ {L : List Nat}, (∀ z ∈ L, p z = true → q z = true) → L.countP p ≤ L.countP q ∧ ((∃ x ∈ L, p x = false ∧ q x = true) → L.countP p < L.countP q) := by
  intro L
  induction L with
  | nil => intro _; exact ⟨Nat.le_refl _, fun ⟨x, hx, _⟩ => absurd hx List.not_mem_nil⟩
  | cons y L ih =>
    intro h
    obtain ⟨i1, i2⟩ := ih (fun z hz => h z (List.mem_cons_of_mem y hz))
    have hy := h y List.mem_cons_self
    rw [List.countP_cons, List.countP_cons]
    have a : (if p y = true then 1 else 0) ≤ (if q y = true then 1 else 0) := by
      cases hp : p y with
      | false => simp
      | true => rw [hy hp]; simp
    refine ⟨by omega, fun ⟨x, hx, h1, h2⟩ => ?_⟩
    rcases List.mem_cons.mp hx with e | e
    · rw [← e, h1, h2]
      simp
      omega
    · have := i2 ⟨x, e, h1, h2⟩
      omega
theorem oRk_is {ob : Nat → Nat → Int32} (T : qTot ob) {L : List Nat} (hL : L.length ≤ 1000) : oIs ob (fun x => x ∈ L) (oRk ob L) := by
  have lt : ∀ x y, x ∈ L → ob x y = -1 → oRk ob L x < oRk ob L y := by
    intro x y hx h
    refine (cntP_le (fun z hz q => ?_)).2 ⟨x, hx, ?_, ?_⟩
    · have q : ob z x = -1 := of_decide_eq_true q
      have := (T.2.2 z x y).2.2 (by rw [q, h])
      exact decide_eq_true (by rw [this, q])
    · rw [T.2.1 x]; rfl
    · exact decide_eq_true h
  refine ⟨fun x _ => Nat.le_trans List.countP_le_length hL, fun x y hx hy => ?_⟩
  rcases T.1 x y with h | h | h
  · rw [h]; exact c3_lt.mpr (lt x y hx h)
  · rw [h, q_c3_0]
    unfold oRk
    congr 1
    funext z
    rw [(T.2.2 z x y).2.1 h]
  · rw [h]; exact c3_gt.mpr (lt y x hy ((tot_sw T).2.1 h))
section F
variable {B : Nat → Nat}
theorem lp_0 {last : Nat} {body : Nat → Nat → Nat × Nat} : ∀ (f p c c' : Nat), q_lp B last body f p c = (0, c') → (∀ e ∈ q_els B last f p, ∃ c1 c2, body e c1 = (0, c2)) ∧ ∀ g : Nat → Nat, (∀ e ∈ q_els B last f p, ∀ c1 c2, body e c1 = (0, c2) → c1 + g e ≤ c2) → c + ((q_els B last f p).map g).sum ≤ c' := by
  intro f
  induction f with
  | zero =>
    intro p c c' h
    have h : (0, c) = (0, c') := h
    cases h
    exact ⟨fun e he => absurd he List.not_mem_nil, fun g _ => Nat.le_refl _⟩
  | succ f ih =>
    intro p c c' h
    rw [q_lp_s] at h
    rw [q_els_s]
    by_cases hp : p < last
    · rw [if_pos hp] at h ⊢
      unfold q_then at h
      split at h
      · rename_i hb
        have hb : body p c = (0, (body p c).2) := by rw [← hb]
        obtain ⟨h1, h2⟩ := ih _ _ _ h
        refine ⟨fun e he => ?_, fun g hg => ?_⟩
        · rcases List.mem_cons.mp he with q | q
          · rw [q]; exact ⟨_, _, hb⟩
          · exact h1 e q
        · have a1 := hg p List.mem_cons_self _ _ hb
          have a2 := h2 g (fun e he => hg e (List.mem_cons_of_mem p he))
          rw [List.map_cons, List.sum_cons]
          omega
      · rename_i hb
        rw [h] at hb
        exact absurd rfl hb
    · rw [if_neg hp] at h ⊢
      cases h
      exact ⟨fun e he => absurd he List.not_mem_nil, fun g _ => Nat.le_refl _⟩
theorem then_0 {r : Nat × Nat} {g : Nat → Nat × Nat} {c' : Nat} (h : q_then r g = (0, c')) : r.1 = 0 ∧ g r.2 = (0, c') := by
  unfold q_then at h
  split at h
  · exact ⟨‹_›, h⟩
  · rename_i hb
    rw [h] at hb
    exact absurd rfl hb
theorem cnt_0 {c m : Nat} (_ : (q_cnt c m).1 = 0) : (q_cnt c m).2 = c + m := by
  unfold q_cnt
  split <;> rfl
theorem cntT_0 {c m c' : Nat} {g : Nat → Nat × Nat} (h : q_then (q_cnt c m) g = (0, c')) : g (c + m) = (0, c') := by
  have := then_0 h
  rw [cnt_0 this.1] at this
  exact this.2
theorem sum_0 : ∀ l : List Nat, (l.map (fun _ => 0)).sum = 0 := by
  intro l
  induction l with
  | nil => rfl
  | cons x l ih => rw [List.map_cons, List.sum_cons, ih]
theorem sum_1 : ∀ l : List Nat, (l.map (fun _ => 1)).sum = l.length := by
  intro l
  induction l with
  | nil => rfl
  | cons x l ih => rw [List.map_cons, List.sum_cons, ih, List.length_cons]; omega
theorem lp_mono {last : Nat} {body : Nat → Nat → Nat × Nat} (hb : ∀ e c1 c2, body e c1 = (0, c2) → c1 ≤ c2) {f p c c' : Nat} (h : q_lp B last body f p c = (0, c')) : c ≤ c' := by
  have := (lp_0 f p c c' h).2 (fun _ => 0) (fun e _ c1 c2 q => hb e c1 c2 q)
  omega
theorem flt_mono : ∀ (k : Nat) (m : Bool) (v c c' : Nat), q_flt B k m v c = (0, c') → c ≤ c' := by
  intro k
  induction k with
  | zero =>
    intro m v c c' h
    have h : (0, c) = (0, c') := by cases m <;> exact h
    cases h
    exact Nat.le_refl _
  | succ k ih =>
    intro m v c c' h
    cases m with
    | false =>
      rw [q_flt_F] at h
      refine lp_mono (fun e c1 c2 q => ?_) h
      unfold q_bodyF at q
      split at q
      · split at q
        · cases q
        · split at q
          · have := ih _ _ _ _ (cntT_0 q)
            omega
          · have := cnt_0 (c := c1) (m := 2) (by rw [q])
            rw [q] at this
            simp at this
            omega
      · split at q
        · cases q
        · split at q
          · cases q
          · have := lp_mono (fun e c1 c2 q => by
              split at q
              · exact ih _ _ _ _ q
              · cases q) (cntT_0 q)
            omega
    | true =>
      rw [q_flt_C] at h
      refine lp_mono (fun e c1 c2 q => ?_) h
      unfold q_bodyC at q
      split at q
      · cases q
      · split at q
        · cases q
        · have q := cntT_0 q
          split at q
          · have := ih _ _ _ _ q
            omega
          · split at q
            · split at q
              · have := ih _ _ _ _ q
                omega
              · have := ih _ _ _ _ q
                omega
            · cases q
              omega
/-- the conditions of a box have right names and values, and are counted -/
theorem flt_C1 {k v c c' : Nat} (h : q_flt B (k + 1) true v c = (0, c')) : (∀ f ∈ q_box_els B v, q_nof (q_word B f) ≠ 0 ∧ q_good B f (q_word B f) = true) ∧ c + (q_box_els B v).length ≤ c' := by
  rw [q_flt_C] at h
  obtain ⟨h1, h2⟩ := lp_0 _ _ _ _ h
  have one : ∀ e c1 c2, q_bodyC B k e c1 = (0, c2) → (q_nof (q_word B e) ≠ 0 ∧ q_good B e (q_word B e) = true) ∧ c1 + 1 ≤ c2 := by
    intro e c1 c2 q
    unfold q_bodyC at q
    split at q
    · cases q
    · split at q
      · cases q
      · rename_i n1 n2
        refine ⟨⟨n1, by simpa using n2⟩, ?_⟩
        have q := cntT_0 q
        split at q
        · exact flt_mono _ _ _ _ _ q
        · split at q
          · split at q
            · exact flt_mono _ _ _ _ _ q
            · exact flt_mono _ _ _ _ _ q
          · cases q
            omega
  refine ⟨fun f hf => ?_, ?_⟩
  · obtain ⟨c1, c2, q⟩ := h1 f hf
    exact (one f c1 c2 q).1
  · have := h2 (fun _ => 1) (fun e _ c1 c2 q => (one e c1 c2 q).2)
    rw [sum_1] at this
    exact this
def cW (B : Nat → Nat) (f : Nat) : Nat := 1 + (if q_word B f = 15 ∧ q_ofi B f = true then (q_box_els B (q_val B f)).length else 0)
def cOk (B : Nat → Nat) (f : Nat) : Prop := q_nof (q_word B f) ≠ 0 ∧ q_good B f (q_word B f) = true ∧ (q_word B f = 15 → q_ofi B f = true → ∀ x ∈ q_box_els B (q_val B f), q_nof (q_word B x) ≠ 0 ∧ q_good B x (q_word B x) = true)
/-- every element of the list has boxes at most lev deep -/
theorem box_els {lev v stop : Nat} {row : Bool} (h : q_box (q_u8 B) B (lev + 1) v stop row = true) : ∀ x ∈ q_box_els B v, (B x = 3 ∨ B x = 4 → 1 ≤ lev ∧ ∃ s r, q_box (q_u8 B) B lev (q_val B x) s r = true) := by
  intro x hx h34
  obtain ⟨-, -, -, h1⟩ := q_box_at h
  obtain ⟨h2, -, j, h3⟩ := q_els_at 2001 (v + 4) 0 h1 x hx
  have h4 := q_at_box (q_at_el h3 h2).2.1
  rcases h34 with e | e
  · exact ⟨q_box_pos (h4.1 e), _, _, h4.1 e⟩
  · exact ⟨q_box_pos (h4.2 e), _, _, h4.2 e⟩
theorem ofi_3 {e : Nat} (h : q_ofi B e = true) : B e = 3 := by
  unfold q_ofi q_cond at h
  simp at h
  exact h.1.1
theorem cond_3 {e : Nat} (h : q_cond B e = true) : B e = 3 := by
  unfold q_cond at h
  simp at h
  exact h.1
theorem flt_C2 {k lev v stop c c' : Nat} {row : Bool} (hb : q_box (q_u8 B) B lev v stop row = true) (hl : lev ≤ k) (h : q_flt B k true v c = (0, c')) : (∀ f ∈ q_box_els B v, cOk B f) ∧ c + ((q_box_els B v).map (cW B)).sum ≤ c' := by
  have h1 := q_box_pos hb
  obtain ⟨k, rfl⟩ : ∃ j, k = j + 1 := ⟨k - 1, by omega⟩
  obtain ⟨lev, rfl⟩ : ∃ j, lev = j + 1 := ⟨lev - 1, by omega⟩
  have hels := box_els hb
  rw [q_flt_C] at h
  obtain ⟨a1, a2⟩ := lp_0 _ _ _ _ h
  have one : ∀ e ∈ q_box_els B v, ∀ c1 c2, q_bodyC B k e c1 = (0, c2) → cOk B e ∧ c1 + cW B e ≤ c2 := by
    intro e he c1 c2 q
    unfold q_bodyC at q
    unfold cOk cW
    split at q
    · cases q
    · split at q
      · cases q
      · rename_i n1 n2
        have n2 : q_good B e (q_word B e) = true := by simpa using n2
        have q := cntT_0 q
        split at q
        · rename_i w
          rw [if_neg (fun z => by omega)]
          exact ⟨⟨n1, n2, fun z => by omega⟩, flt_mono _ _ _ _ _ q⟩
        · split at q
          · rename_i w15
            split at q
            · rename_i ho
              rw [if_pos ⟨w15, ho⟩]
              have hk := (hels e he (Or.inl (ofi_3 ho))).1
              obtain ⟨k2, rfl⟩ : ∃ j, k = j + 1 := ⟨k - 1, by omega⟩
              have := flt_C1 q
              exact ⟨⟨n1, n2, fun _ _ => this.1⟩, by omega⟩
            · rename_i ho
              rw [if_neg (fun z => ho z.2)]
              exact ⟨⟨n1, n2, fun _ z => absurd z ho⟩, flt_mono _ _ _ _ _ q⟩
          · rename_i w15
            rw [if_neg (fun z => w15 z.1)]
            cases q
            exact ⟨⟨n1, n2, fun z => absurd z w15⟩, by omega⟩
  refine ⟨fun f hf => ?_, ?_⟩
  · obtain ⟨c1, c2, q⟩ := a1 f hf
    exact (one f hf c1 c2 q).1
  · exact a2 (cW B) (fun e he c1 c2 q => (one e he c1 c2 q).2)
/-- all conditions of a filter: the element that has the path, the kind of the condition, its place -/
def q_colAE (B : Nat → Nat) (sub : Nat → List (Nat × Nat × Nat)) (e : Nat) : List (Nat × Nat × Nat) := if q_word B e = 2 then (q_box_els B (q_val B e)).flatMap (fun i => sub (q_val B i)) else if q_cond B e = true then (q_box_els B (q_val B e)).flatMap (fun c => (q_add B (q_nof (q_word B c)) c).map (fun ce => (e, ce))) else (q_add B 1 e).map (fun ce => (e, ce))
def q_colA (B : Nat → Nat) : Nat → Nat → List (Nat × Nat × Nat)
  | 0, _ => []
  | k + 1, v => (q_box_els B v).flatMap (q_colAE B (q_colA B k))
theorem q_colA_s (k v : Nat) : q_colA B (k + 1) v = (q_box_els B v).flatMap (q_colAE B (q_colA B k)) := rfl
theorem fm_congr {α β : Type} {f g : α → List β} {l : List α} (h : ∀ x ∈ l, f x = g x) : l.flatMap f = l.flatMap g := by
  induction l with
  | nil => rfl
  | cons x l ih =>
    rw [List.flatMap_cons, List.flatMap_cons, h x List.mem_cons_self, ih (fun y hy => h y (List.mem_cons_of_mem x hy))]
theorem fm_nil {α β : Type} (l : List α) : l.flatMap (fun _ => ([] : List β)) = [] := by
  induction l with
  | nil => rfl
  | cons x l ih => rw [List.flatMap_cons, ih]; rfl
theorem colA_col (P : Nat → Nat) (m : Nat) : ∀ k v, q_col B P m k v = ((q_colA B k v).filter (fun z => q_pn B z.1 P m)).map (fun z => z.2) := by
  have gen : ∀ (e : Nat) (l : List (Nat × Nat)), ((l.map (fun ce => (e, ce))).filter (fun z => q_pn B z.1 P m)).map (fun z => z.2) = if q_pn B e P m = true then l else [] := by
    intro e l
    induction l with
    | nil => split <;> rfl
    | cons x l ih =>
      rw [List.map_cons, List.filter_cons]
      by_cases h : q_pn B e P m = true
      · rw [if_pos h] at ih ⊢
        rw [if_pos h, List.map_cons, ih]
      · rw [if_neg h] at ih ⊢
        rw [if_neg h, ih]
  intro k
  induction k with
  | zero => intro v; rfl
  | succ k ih =>
    intro v
    rw [q_colA_s, List.filter_flatMap, List.map_flatMap]
    show (q_box_els B v).flatMap (q_colE B P m (q_col B P m k)) = _
    refine fm_congr (fun e _ => ?_)
    unfold q_colE q_colAE
    by_cases h2 : q_word B e = 2
    · rw [if_pos h2, if_pos h2, List.filter_flatMap, List.map_flatMap]
      exact fm_congr (fun i _ => ih _)
    · rw [if_neg h2, if_neg h2]
      by_cases hc : q_cond B e = true
      · rw [if_pos hc, if_pos hc, List.filter_flatMap, List.map_flatMap]
        by_cases hp : q_pn B e P m = true
        · rw [if_pos hp]
          refine fm_congr (fun c _ => ?_)
          rw [gen, if_pos hp]
        · rw [if_neg hp, ← fm_nil (q_box_els B (q_val B e))]
          refine fm_congr (fun c _ => ?_)
          rw [gen, if_neg hp]
      · rw [if_neg hc, if_neg hc, gen]
/-- a condition of a filter without fault -/
def zOk (B : Nat → Nat) (z : Nat × Nat × Nat) : Prop := 1 ≤ z.2.1 ∧ z.2.1 ≤ 7 ∧ (z.2.1 = 2 → B z.2.2 = 4) ∧ (z.2.1 = 7 → q_ofi B z.2.2 = true ∧ ∀ x ∈ q_box_els B (q_val B z.2.2), q_nof (q_word B x) ≠ 0 ∧ (q_nof (q_word B x) = 2 → B x = 4))
def zW (B : Nat → Nat) (z : Nat × Nat × Nat) : Nat := 1 + (if z.2.1 = 7 then (q_box_els B (q_val B z.2.2)).length else 0)
theorem nof_15 {w : Nat} (h : q_nof w = 7) : w = 15 := by
  unfold q_nof at h
  repeat' split at h
  all_goals omega
theorem nof_7 {w : Nat} (h : q_nof w = 2) : w = 7 := by
  unfold q_nof at h
  repeat' split at h
  all_goals omega
theorem good_7 {e : Nat} (h : q_good B e (q_word B e) = true) (hn : q_nof (q_word B e) = 2) : B e = 4 := by
  unfold q_good at h
  rw [if_pos (Or.inl (nof_7 hn))] at h
  exact of_decide_eq_true h
theorem mapsum_fm {α β : Type} (g : β → Nat) (f : α → List β) : ∀ l : List α, ((l.flatMap f).map g).sum = (l.map (fun x => ((f x).map g).sum)).sum := by
  intro l
  induction l with
  | nil => rfl
  | cons x l ih => rw [List.flatMap_cons, List.map_append, List.sum_append, ih, List.map_cons, List.sum_cons]
theorem sum_mono {α : Type} {f g : α → Nat} : ∀ {l : List α}, (∀ x ∈ l, f x ≤ g x) → (l.map f).sum ≤ (l.map g).sum := by
  intro l
  induction l with
  | nil => intro _; exact Nat.le_refl _
  | cons x l ih =>
    intro h
    simp only [List.map_cons, List.sum_cons]
    have h1 := h x List.mem_cons_self
    have h2 := ih (fun y hy => h y (List.mem_cons_of_mem x hy))
    omega
theorem add_c (e : Nat) {c : Nat} (hc : cOk B c) : (∀ z ∈ (q_add B (q_nof (q_word B c)) c).map (fun ce => (e, ce)), zOk B z) ∧ (((q_add B (q_nof (q_word B c)) c).map (fun ce => (e, ce))).map (zW B)).sum ≤ cW B c := by
  unfold q_add
  split
  · exact ⟨fun z hz => absurd hz List.not_mem_nil, Nat.zero_le _⟩
  · rename_i h
    have h7 : q_nof (q_word B c) = 7 → q_ofi B c = true := fun q => by
      cases ho : q_ofi B c with
      | true => rfl
      | false => exact absurd (Or.inr ⟨q, ho⟩) h
    have hle : q_nof (q_word B c) ≤ 7 := by
      have : ¬ 7 < q_nof (q_word B c) := fun q => h (Or.inl q)
      omega
    refine ⟨fun z hz => ?_, ?_⟩
    · have hz := List.mem_singleton.mp hz
      rw [hz]
      refine ⟨Nat.pos_of_ne_zero hc.1, hle, fun q => good_7 hc.2.1 q, fun q => ⟨h7 q, fun x hx => ?_⟩⟩
      have := hc.2.2 (nof_15 q) (h7 q) x hx
      exact ⟨this.1, fun z => good_7 this.2 z⟩
    · unfold cW zW
      rw [List.map_singleton, List.map_singleton]
      show _ + 0 ≤ _
      dsimp only
      split
      · rename_i q
        rw [if_pos ⟨nof_15 q, h7 q⟩]
        exact Nat.le_refl _
      · omega
theorem flt_F : ∀ (k lev v stop c c' : Nat) (row : Bool), q_box (q_u8 B) B lev v stop row = true → lev ≤ k → q_flt B k false v c = (0, c') → q_ffr B k v ∧ (∀ z ∈ q_colA B k v, zOk B z) ∧ c + ((q_colA B k v).map (zW B)).sum ≤ c' := by
  intro k
  induction k with
  | zero =>
    intro lev v stop c c' row hb hl
    have := q_box_pos hb
    omega
  | succ k ih =>
    intro lev v stop c c' row hb hl h
    have h1 := q_box_pos hb
    obtain ⟨lev, rfl⟩ : ∃ j, lev = j + 1 := ⟨lev - 1, by omega⟩
    have hels := box_els hb
    rw [q_flt_F] at h
    obtain ⟨a1, a2⟩ := lp_0 _ _ _ _ h
    have one : ∀ e ∈ q_box_els B v, ∀ c1 c2, q_bodyF B k e c1 = (0, c2) → (q_word B e = 2 → B e = 4 ∧ ∀ i ∈ q_box_els B (q_val B e), B i = 3 ∧ q_ffr B k (q_val B i)) ∧ (∀ z ∈ q_colAE B (q_colA B k) e, zOk B z) ∧ c1 + ((q_colAE B (q_colA B k) e).map (zW B)).sum ≤ c2 := by
      intro e he c1 c2 q
      have add1 : (∀ z ∈ (q_add B 1 e).map (fun ce => (e, ce)), zOk B z) ∧ (((q_add B 1 e).map (fun ce => (e, ce))).map (zW B)).sum = 1 := by
        have : q_add B 1 e = [(1, e)] := if_neg (fun q => by omega)
        rw [this]
        refine ⟨fun z hz => ?_, rfl⟩
        rw [List.mem_singleton.mp hz]
        exact ⟨Nat.le_refl _, show 1 ≤ 7 by decide, fun q => absurd (show (1 : Nat) = 2 from q) (by decide), fun q => absurd (show (1 : Nat) = 7 from q) (by decide)⟩
      unfold q_bodyF at q
      split at q
      · rename_i w0
        refine ⟨fun w2 => by omega, ?_⟩
        unfold q_colAE
        rw [if_neg (by omega)]
        split at q
        · cases q
        · split at q
          · rename_i hc
            rw [if_pos hc]
            have q := cntT_0 q
            obtain ⟨k1, s, r, hb2⟩ := hels e he (Or.inl (cond_3 hc))
            obtain ⟨b1, b2⟩ := flt_C2 hb2 (by omega) q
            refine ⟨fun z hz => ?_, ?_⟩
            · obtain ⟨f, hf, hz⟩ := List.mem_flatMap.mp hz
              exact (add_c e (b1 f hf)).1 z hz
            · rw [mapsum_fm]
              have := sum_mono (f := fun x => (((q_add B (q_nof (q_word B x)) x).map (fun ce => (e, ce))).map (zW B)).sum) (g := cW B) (l := q_box_els B (q_val B e)) (fun x hx => (add_c e (b1 x hx)).2)
              omega
          · rename_i hc
            rw [if_neg hc]
            refine ⟨add1.1, ?_⟩
            have := cnt_0 (c := c1) (m := 2) (by rw [q])
            rw [q] at this
            have this : c2 = c1 + 2 := this
            rw [add1.2]
            omega
      · split at q
        · cases q
        · split at q
          · cases q
          · rename_i w0 hj h4
            have h4 : B e = 4 := Decidable.byContradiction (fun z => h4 (Or.inl z))
            have q := cntT_0 q
            obtain ⟨k1, s, r, hb2⟩ := hels e he (Or.inr h4)
            by_cases w2 : q_word B e = 2
            · obtain ⟨lev, rfl⟩ : ∃ j, lev = j + 1 := ⟨lev - 1, by omega⟩
              have hels2 := box_els hb2
              obtain ⟨b1, b2⟩ := lp_0 _ _ _ _ q
              have two : ∀ i ∈ q_box_els B (q_val B e), ∀ c1 c2, (if B i = 3 then q_flt B k false (q_val B i) c1 else (2, c1)) = (0, c2) → B i = 3 ∧ q_ffr B k (q_val B i) ∧ (∀ z ∈ q_colA B k (q_val B i), zOk B z) ∧ c1 + ((q_colA B k (q_val B i)).map (zW B)).sum ≤ c2 := by
                intro i hi c1 c2 q
                split at q
                · rename_i h3
                  obtain ⟨-, s, r, hb3⟩ := hels2 i hi (Or.inl h3)
                  exact ⟨h3, ih lev _ s c1 c2 r hb3 (by omega) q⟩
                · cases q
              refine ⟨fun _ => ⟨h4, fun i hi => ?_⟩, ?_⟩
              · obtain ⟨d1, d2, q⟩ := b1 i hi
                have := two i hi d1 d2 q
                exact ⟨this.1, this.2.1⟩
              · unfold q_colAE
                rw [if_pos w2]
                refine ⟨fun z hz => ?_, ?_⟩
                · obtain ⟨i, hi, hz⟩ := List.mem_flatMap.mp hz
                  obtain ⟨d1, d2, q⟩ := b1 i hi
                  exact (two i hi d1 d2 q).2.2.1 z hz
                · rw [mapsum_fm]
                  have := b2 (fun i => ((q_colA B k (q_val B i)).map (zW B)).sum) (fun i hi d1 d2 q => (two i hi d1 d2 q).2.2.2)
                  have e2 : q_els B (q_last B (q_val B e)) 2001 (q_val B e + 4) = q_box_els B (q_val B e) := rfl
                  rw [e2] at this
                  omega
            · refine ⟨fun z => absurd z w2, ?_⟩
              have hc : ¬ q_cond B e = true := fun z => by have := cond_3 z; omega
              unfold q_colAE
              rw [if_neg w2, if_neg hc]
              refine ⟨add1.1, ?_⟩
              rw [add1.2]
              exact lp_mono (fun e c1 c2 q => by
                split at q
                · exact flt_mono _ _ _ _ _ q
                · cases q) q
    have e2 : q_els B (q_last B v) 2001 (v + 4) = q_box_els B v := rfl
    rw [e2] at a1 a2
    refine ⟨fun e he w2 => ?_, fun z hz => ?_, ?_⟩
    · obtain ⟨c1, c2, q⟩ := a1 e he
      exact (one e he c1 c2 q).1 w2
    · rw [q_colA_s] at hz
      obtain ⟨e, he, hz⟩ := List.mem_flatMap.mp hz
      obtain ⟨c1, c2, q⟩ := a1 e he
      exact (one e he c1 c2 q).2.1 z hz
    · rw [q_colA_s, mapsum_fm]
      exact a2 (fun e => ((q_colAE B (q_colA B k) e).map (zW B)).sum) (fun e he c1 c2 q => (one e he c1 c2 q).2.2)
/-- what the class's gathering needs of a filter -/
def q_gfr (B : Nat → Nat) : Nat → Nat → Prop
  | 0, _ => False
  | k + 1, v => ∀ e ∈ q_box_els B v, (q_word B e ≠ 0 → B e = 4) ∧ (q_word B e = 2 → ∀ i ∈ q_box_els B (q_val B e), B i = 3 ∧ q_gfr B k (q_val B i)) ∧ (q_cond B e = true → ∀ c ∈ q_box_els B (q_val B e), q_nof (q_word B c) ≠ 0)
theorem flt_G : ∀ (k lev v stop c c' : Nat) (row : Bool), q_box (q_u8 B) B lev v stop row = true → lev ≤ k → q_flt B k false v c = (0, c') → q_gfr B k v := by
  intro k
  induction k with
  | zero =>
    intro lev v stop c c' row hb hl
    have := q_box_pos hb
    omega
  | succ k ih =>
    intro lev v stop c c' row hb hl h
    have h1 := q_box_pos hb
    obtain ⟨lev, rfl⟩ : ∃ j, lev = j + 1 := ⟨lev - 1, by omega⟩
    have hels := box_els hb
    rw [q_flt_F] at h
    obtain ⟨a1, -⟩ := lp_0 _ _ _ _ h
    intro e he
    obtain ⟨c1, c2, q⟩ := a1 e he
    unfold q_bodyF at q
    split at q
    · rename_i w0
      refine ⟨fun z => absurd w0 z, fun z => by omega, fun hc => ?_⟩
      split at q
      · cases q
      · obtain ⟨k1, s, r, hb2⟩ := hels e he (Or.inl (cond_3 hc))
        exact fun c hcc => ((flt_C2 hb2 (by omega) (cntT_0 q)).1 c hcc).1
    · split at q
      · cases q
      · split at q
        · cases q
        · rename_i w0 hj h4
          have h4 : B e = 4 := Decidable.byContradiction (fun z => h4 (Or.inl z))
          have q := cntT_0 q
          obtain ⟨k1, s, r, hb2⟩ := hels e he (Or.inr h4)
          refine ⟨fun _ => h4, fun _ i hi => ?_, fun hc => by have := cond_3 hc; omega⟩
          obtain ⟨lev, rfl⟩ : ∃ j, lev = j + 1 := ⟨lev - 1, by omega⟩
          have hels2 := box_els hb2
          obtain ⟨b1, -⟩ := lp_0 _ _ _ _ q
          obtain ⟨d1, d2, q⟩ := b1 i hi
          split at q
          · rename_i h3
            obtain ⟨-, s, r, hb3⟩ := hels2 i hi (Or.inl h3)
            exact ⟨h3, ih lev _ s d1 d2 r hb3 (by omega) q⟩
          · cases q
end F
