section K
variable {ob : Nat → Nat → Int32} {P : Nat → Prop} {O B : Nat → Nat}
theorem pos_is : ∀ {l : List qR} {i p : Nat}, p ≤ l.length → (∀ j, j < p → ob (l.getD j q_r0).1.2.2.2 i < 0) → (p < l.length → ¬ ob (l.getD p q_r0).1.2.2.2 i < 0) → q_pos ob l i = p := by
  intro l
  induction l with
  | nil => intro i p h1 _ _; exact (Nat.le_zero.mp h1).symm
  | cons r l ih =>
    intro i p h1 h2 h3
    rw [q_pos_c]
    cases p with
    | zero => exact if_neg (h3 (Nat.zero_lt_succ _))
    | succ p =>
      have h4 : ob r.1.2.2.2 i < 0 := h2 0 (Nat.zero_lt_succ _)
      rw [if_pos h4, ih (Nat.le_of_succ_le_succ h1) (fun j hj => h2 (j + 1) (Nat.succ_lt_succ hj)) (fun hp => h3 (Nat.succ_lt_succ hp))]
theorem pw_getD {α : Type} {R : α → α → Prop} {l : List α} {x : α} (h : l.Pairwise R) {i j : Nat} (hij : i < j) (hj : j < l.length) : R (l.getD i x) (l.getD j x) := by
  have := List.pairwise_iff_getElem.mp h i j (by omega) hj hij
  rw [List.getD_eq_getElem?_getD, List.getD_eq_getElem?_getD, List.getElem?_eq_getElem hj, List.getElem?_eq_getElem (show i < l.length by omega)]
  exact this
/-- the classes go first in the order -/
def oCl (ob : Nat → Nat → Int32) (B : Nat → Nat) : Prop := ∀ x y, q_cls (B x) ≠ q_cls (B y) → ob x y = q_c3 (q_cls (B x)) (q_cls (B y))
def rPt (P : Nat → Prop) (B : Nat → Nat) (r : qR) : Prop := ∃ p, P p ∧ r = q_pt B p
theorem q_cls_b (k : Nat) : 1 ≤ q_cls k ∧ q_cls k ≤ 6 := by
  unfold q_cls
  repeat' split
  all_goals omega
theorem pt_lo (B O : Nat → Nat) (p : Nat) : eLo O (q_pt B p).1 = 2 * (4096 * q_cls (B p) + (1 + O p)) ∧ eHi O (q_pt B p).2 = 2 * (4096 * q_cls (B p) + (1 + O p)) + 1 := by
  constructor
  · unfold eLo ePos q_pt
    simp
  · unfold eHi ePos q_pt
    simp
theorem pt_ok {p : Nat} (hp : P p) : rOk P O (q_pt B p) := by
  have := pt_lo B O p
  have hc := q_cls_b (B p)
  exact ⟨⟨hc.2, Nat.le_succ _, Nat.le_refl _, fun _ => hp⟩, ⟨hc.2, Nat.le_succ _, Nat.le_refl _, fun _ => hp⟩, rfl, by omega⟩
theorem pt_ob (hO : oIs ob P O) (hc : oCl ob B) {x y : Nat} (hx : P x) (hy : P y) : ob x y = q_c3 (eLo O (q_pt B x).1) (eLo O (q_pt B y).1) := by
  rw [(pt_lo B O x).1, (pt_lo B O y).1]
  have h1 := hO.1 x hx
  have h2 := hO.1 y hy
  by_cases h : q_cls (B x) = q_cls (B y)
  · rw [← hO.2 x y hx hy, h]
    refine c3_eq ?_ ?_ <;> constructor <;> intro q <;> omega
  · rw [hc x y h]
    refine c3_eq ?_ ?_ <;> constructor <;> intro q <;> omega
/-- a place found from the end on is the place found from the beginning on -/
theorem insr_is (hO : oIs ob P O) (hc : oCl ob B) {l : List qR} {i c : Nat} (hl : rSd P O l) (hpt : ∀ r ∈ l, rPt P B r) (hi : P i) (hcl : c ≤ l.length) (h1 : ∀ j, c ≤ j → j < l.length → eLo O (q_pt B i).1 < eLo O (l.getD j q_r0).1) (h2 : 0 < c → eLo O (l.getD (c - 1) q_r0).1 ≤ eLo O (q_pt B i).1) :
    q_insr ob B l i = if c = 0 ∨ eLo O (l.getD (c - 1) q_r0).1 < eLo O (q_pt B i).1 then l.take c ++ q_pt B i :: l.drop c else l := by
  have hm : ∀ j, j < l.length → l.getD j q_r0 ∈ l := fun j hj => by
    rw [List.getD_eq_getElem?_getD, List.getElem?_eq_getElem hj]
    exact List.getElem_mem hj
  have hob : ∀ j, j < l.length → ob (l.getD j q_r0).1.2.2.2 i = q_c3 (eLo O (l.getD j q_r0).1) (eLo O (q_pt B i).1) := by
    intro j hj
    obtain ⟨p, hp, e⟩ := hpt _ (hm j hj)
    rw [e]
    exact pt_ob hO hc hp hi
  have hs : ∀ j k, j < k → k < l.length → eLo O (l.getD j q_r0).1 < eLo O (l.getD k q_r0).1 := by
    intro j k hjk hk
    have a1 := pw_getD (x := q_r0) hl.2 hjk hk
    have a2 := (hl.1 _ (hm j (by omega))).2.2.2
    omega
  by_cases h : c = 0 ∨ eLo O (l.getD (c - 1) q_r0).1 < eLo O (q_pt B i).1
  · rw [if_pos h]
    have hp : q_pos ob l i = c := by
      refine pos_is hcl (fun j hj => ?_) (fun hj => ?_)
      · rw [hob j (by omega), c3_neg]
        rcases h with h | h
        · omega
        · by_cases e : j = c - 1
          · rw [e]; exact h
          · exact Nat.lt_trans (hs j (c - 1) (by omega) (by omega)) h
      · rw [hob c hj, c3_neg]
        have := h1 c (Nat.le_refl _) hj
        omega
    unfold q_insr
    rw [hp, if_neg (fun q => ?_)]
    obtain ⟨q1, q2⟩ := q
    rw [hob c q1, q_c3_0] at q2
    have := h1 c (Nat.le_refl _) q1
    omega
  · rw [if_neg h]
    have h0 : 0 < c := by omega
    have he : eLo O (l.getD (c - 1) q_r0).1 = eLo O (q_pt B i).1 := by
      have := h2 h0
      omega
    have hp : q_pos ob l i = c - 1 := by
      refine pos_is (by omega) (fun j hj => ?_) (fun hj => ?_)
      · rw [hob j (by omega), c3_neg, ← he]
        exact hs j (c - 1) (by omega) (by omega)
      · rw [hob (c - 1) hj, c3_neg, he]
        exact Nat.lt_irrefl _
    unfold q_insr
    have h9 : ob (l.getD (c - 1) q_r0).1.2.2.2 i = 0 := by
      rw [hob (c - 1) (by omega)]
      exact q_c3_0.mpr he
    rw [hp]
    exact if_pos ⟨by omega, h9⟩
theorem insr_sd (hO : oIs ob P O) (hc : oCl ob B) {l : List qR} {i : Nat} (hl : rSd P O l) (hpt : ∀ r ∈ l, rPt P B r) (hi : P i) : rSd P O (q_insr ob B l i) ∧ ∀ r ∈ q_insr ob B l i, rPt P B r := by
  have hm : ∀ j, j < l.length → l.getD j q_r0 ∈ l := fun j hj => by
    rw [List.getD_eq_getElem?_getD, List.getElem?_eq_getElem hj]
    exact List.getElem_mem hj
  have he : ∃ c, c ≤ l.length ∧ (∀ j, c ≤ j → j < l.length → eLo O (q_pt B i).1 < eLo O (l.getD j q_r0).1) ∧ (0 < c → eLo O (l.getD (c - 1) q_r0).1 ≤ eLo O (q_pt B i).1) := by
    have : ∀ m, m ≤ l.length → (∀ j, m ≤ j → j < l.length → eLo O (q_pt B i).1 < eLo O (l.getD j q_r0).1) → ∃ c, c ≤ l.length ∧ (∀ j, c ≤ j → j < l.length → eLo O (q_pt B i).1 < eLo O (l.getD j q_r0).1) ∧ (0 < c → eLo O (l.getD (c - 1) q_r0).1 ≤ eLo O (q_pt B i).1) := by
      intro m
      induction m with
      | zero => intro h1 h2; exact ⟨0, h1, h2, fun q => absurd q (Nat.lt_irrefl _)⟩
      | succ m ih =>
        intro h1 h2
        by_cases h3 : eLo O (l.getD m q_r0).1 ≤ eLo O (q_pt B i).1
        · exact ⟨m + 1, h1, h2, fun _ => h3⟩
        · refine ih (by omega) (fun j h4 h5 => ?_)
          by_cases h6 : j = m
          · rw [h6]; omega
          · exact h2 j (by omega) h5
    exact this l.length (Nat.le_refl _) (fun j h1 h2 => by omega)
  obtain ⟨c, h0, h1, h2⟩ := he
  rw [insr_is hO hc hl hpt hi h0 h1 h2]
  split
  · rename_i h
    have hmem : ∀ r, r ∈ l.take c ++ q_pt B i :: l.drop c → r = q_pt B i ∨ r ∈ l := by
      intro r hr
      rcases List.mem_append.mp hr with hr | hr
      · exact Or.inr (List.mem_of_mem_take hr)
      · rcases List.mem_cons.mp hr with hr | hr
        · exact Or.inl hr
        · exact Or.inr (List.mem_of_mem_drop hr)
    have key := pt_lo B O i
    have kp : ∀ r, rPt P B r → eHi O r.2 = eLo O r.1 + 1 := fun r ⟨p, _, e⟩ => by
      have := pt_lo B O p
      rw [e]
      omega
    refine ⟨⟨fun r hr => ?_, ?_⟩, fun r hr => ?_⟩
    · rcases hmem r hr with e | e
      · rw [e]; exact pt_ok hi
      · exact hl.1 r e
    · rw [List.pairwise_append]
      refine ⟨hl.2.sublist (List.take_sublist c l), ?_, fun x hx y hy => ?_⟩
      · rw [List.pairwise_cons]
        refine ⟨fun y hy => ?_, hl.2.sublist (List.drop_sublist c l)⟩
        obtain ⟨k, hk, e⟩ := List.getElem_of_mem hy
        rw [List.length_drop] at hk
        have h5 := h1 (c + k) (by omega) (by omega)
        rw [List.getD_eq_getElem?_getD, List.getElem?_eq_getElem (show c + k < l.length by omega)] at h5
        rw [List.getElem_drop] at e
        rw [← e]
        have h5 : eLo O (q_pt B i).1 < eLo O (l[c + k]'(by omega)).1 := h5
        omega
      · have hx' : eHi O x.2 ≤ eLo O (q_pt B i).1 := by
          obtain ⟨k, hk, e⟩ := List.getElem_of_mem hx
          rw [List.length_take] at hk
          rw [List.getElem_take] at e
          rw [← e, kp _ (hpt _ (List.getElem_mem _))]
          rcases h with h | h
          · omega
          · have h6 : eLo O (l.getD k q_r0).1 ≤ eLo O (l.getD (c - 1) q_r0).1 := by
              by_cases ek : k = c - 1
              · rw [ek]; exact Nat.le_refl _
              · have a1 := pw_getD (x := q_r0) hl.2 (show k < c - 1 by omega) (by omega)
                have a2 := (hl.1 _ (hm k (by omega))).2.2.2
                omega
            rw [List.getD_eq_getElem?_getD, List.getElem?_eq_getElem (show k < l.length by omega)] at h6
            have h6 : eLo O (l[k]'(by omega)).1 ≤ eLo O (l.getD (c - 1) q_r0).1 := h6
            omega
        rcases List.mem_cons.mp hy with hy | hy
        · rw [hy]; exact hx'
        · obtain ⟨k, hk, e⟩ := List.getElem_of_mem hy
          rw [List.length_drop] at hk
          have h5 := h1 (c + k) (by omega) (by omega)
          rw [List.getD_eq_getElem?_getD, List.getElem?_eq_getElem (show c + k < l.length by omega)] at h5
          rw [List.getElem_drop] at e
          rw [← e]
          have h5 : eLo O (q_pt B i).1 < eLo O (l[c + k]'(by omega)).1 := h5
          omega
    · rcases hmem r hr with e | e
      · exact ⟨i, hi, e⟩
      · exact hpt r e
  · exact ⟨hl, hpt⟩
/-- all of the class of rows -/
theorem rr_lo (O : Nat → Nat) : eLo O q_rr.1 = 40961 ∧ eHi O q_rr.2 = 49150 := ⟨rfl, rfl⟩
theorem addr_is : ∀ {l : List qR} {c : Nat}, c ≤ l.length → (∀ j, j < c → (l.getD j q_r0).1.1 ≤ 5) → (∀ j, c ≤ j → j < l.length → 5 < (l.getD j q_r0).1.1) → q_addr l = l.take c ++ q_rr :: l.drop c := by
  intro l
  induction l with
  | nil =>
    intro c h0 _ _
    rw [List.take_nil, List.drop_nil]
    rfl
  | cons r l ih =>
    intro c h0 h1 h2
    cases c with
    | zero => exact if_pos (h2 0 (Nat.le_refl _) (Nat.zero_lt_succ _))
    | succ c =>
      have h3 : ¬ 5 < r.1.1 := by
        have h3 : r.1.1 ≤ 5 := h1 0 (Nat.zero_lt_succ _)
        omega
      rw [show q_addr (r :: l) = if 5 < r.1.1 then q_rr :: r :: l else r :: q_addr l from rfl, if_neg h3, ih (Nat.le_of_succ_le_succ h0) (fun j hj => h1 (j + 1) (Nat.succ_lt_succ hj)) (fun j h4 h5 => h2 (j + 1) (Nat.succ_le_succ h4) (Nat.succ_lt_succ h5))]
      rfl
theorem sd_cls (hO : oIs ob P O) {x y : qR} (hx : rOk P O x) (hy : rOk P O y) (h : eHi O x.2 ≤ eLo O y.1) : x.1.1 ≤ y.1.1 := by
  have a1 := eHi_b hO hx.2.1
  have a2 := eLo_b hO hy.1
  have a3 := hx.2.2.1
  omega
theorem addr_sd (hO : oIs ob P O) : ∀ {l : List qR}, rSd P O l → (∀ r ∈ l, r.1.1 ≠ 5) → rSd P O (q_addr l) ∧ (q_addr l).length = l.length + 1 ∧ ∀ r ∈ q_addr l, r = q_rr ∨ r ∈ l := by
  intro l
  have hrr : rOk P O q_rr := ⟨⟨by decide, by decide, by decide, fun q => absurd q (by decide)⟩, ⟨by decide, by decide, by decide, fun q => absurd q (by decide)⟩, rfl, by rw [(rr_lo O).1, (rr_lo O).2]; decide⟩
  induction l with
  | nil =>
    intro _ _
    refine ⟨⟨fun r hr => ?_, List.pairwise_singleton _ _⟩, rfl, fun r hr => Or.inl (List.mem_singleton.mp hr)⟩
    rw [List.mem_singleton.mp hr]
    exact hrr
  | cons r l ih =>
    intro hl h5
    have hp := List.pairwise_cons.mp hl.2
    have hr := hl.1 r List.mem_cons_self
    have e : q_addr (r :: l) = if 5 < r.1.1 then q_rr :: r :: l else r :: q_addr l := rfl
    rw [e]
    split
    · rename_i h
      refine ⟨⟨fun s hs => ?_, ?_⟩, by simp, fun s hs => ?_⟩
      · rcases List.mem_cons.mp hs with hs | hs
        · rw [hs]; exact hrr
        · exact hl.1 s hs
      · refine List.pairwise_cons.mpr ⟨fun s hs => ?_, hl.2⟩
        have h6 : r.1.1 ≤ s.1.1 := by
          rcases List.mem_cons.mp hs with q | q
          · rw [q]; exact Nat.le_refl _
          · exact sd_cls hO hr (hl.1 s hs) (hp.1 s q)
        have := (eLo_b hO (hl.1 s hs).1).1
        rw [(rr_lo O).2]
        omega
      · exact List.mem_cons.mp hs
    · rename_i h
      have h7 : r.1.1 ≠ 5 := h5 r List.mem_cons_self
      obtain ⟨i1, i2, i3⟩ := ih ⟨fun s hs => hl.1 s (List.mem_cons_of_mem r hs), hp.2⟩ (fun s hs => h5 s (List.mem_cons_of_mem r hs))
      refine ⟨⟨fun s hs => ?_, ?_⟩, by rw [List.length_cons, i2, List.length_cons], fun s hs => ?_⟩
      · rcases List.mem_cons.mp hs with q | q
        · rw [q]; exact hr
        · exact i1.1 s q
      · refine List.pairwise_cons.mpr ⟨fun s hs => ?_, i1.2⟩
        rcases i3 s hs with q | q
        · rw [q, (rr_lo O).1]
          have := (eHi_b hO hr.2.1).2
          have := hr.2.2.1
          omega
        · exact hp.1 s q
      · rcases List.mem_cons.mp hs with q | q
        · exact Or.inr (by rw [q]; exact List.mem_cons_self)
        · exact (i3 s q).imp_right (fun z => List.mem_cons_of_mem r z)
end K
