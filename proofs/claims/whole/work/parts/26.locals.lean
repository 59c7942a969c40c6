theorem mm_wide_cat (v : Value) : mm_wide v = true ↔ v.category = 2 := by cases v <;> simp [mm_wide, Value.category]
theorem mm_lay_len (as : List Value) : (lg_sl as).length = (mm_lay as).length := by
  induction as with
  | nil => rfl
  | cons v vs ih =>
    have e : lg_sl (v :: vs) = (if v.category = 2 then [Slot.val v, .second] else [.val v]) ++ lg_sl vs := by simp [lg_sl]
    have e2 : mm_lay (v :: vs) = if mm_wide v then v :: mm_un :: mm_lay vs else v :: mm_lay vs := rfl
    rw [e, List.length_append, ih, e2]
    by_cases hw : mm_wide v = true
    · rw [if_pos hw, if_pos ((mm_wide_cat v).mp hw)]
      simp only [List.length_cons, List.length_nil]
      omega
    · rw [if_neg hw, if_neg (fun q => hw ((mm_wide_cat v).mpr q))]
      simp only [List.length_cons, List.length_nil]
      omega
theorem mm_lay_mem (as : List Value) : ∀ (k i : Nat) (v : Value), (mm_lay as)[i]? = some v → v ≠ mm_un → (k + i, v) ∈ lv_args k as := by
  induction as with
  | nil => intro k i v h; simp [mm_lay] at h
  | cons w ws ih =>
    intro k i v h hv
    unfold mm_lay at h
    unfold lv_args
    by_cases hw : mm_wide w = true
    · rw [if_pos hw] at h
      rw [if_pos ((mm_wide_cat w).mp hw)]
      match i, h with
      | 0, h =>
        simp only [List.getElem?_cons_zero, Option.some.injEq] at h
        rw [← h]
        exact List.mem_cons_self
      | 1, h =>
        simp only [List.getElem?_cons_succ, List.getElem?_cons_zero, Option.some.injEq] at h
        exact absurd h.symm hv
      | j + 2, h =>
        simp only [List.getElem?_cons_succ] at h
        have h2 := ih (k + 2) j v h hv
        rw [show k + (j + 2) = k + 2 + j by omega]
        exact List.mem_cons_of_mem _ h2
    · rw [if_neg hw] at h
      rw [if_neg (fun q => hw ((mm_wide_cat w).mpr q))]
      match i, h with
      | 0, h =>
        simp only [List.getElem?_cons_zero, Option.some.injEq] at h
        rw [← h]
        exact List.mem_cons_self
      | j + 1, h =>
        simp only [List.getElem?_cons_succ] at h
        have h2 := ih (k + 1) j v h hv
        rw [show k + (j + 1) = k + 1 + j by omega]
        exact List.mem_cons_of_mem _ h2
theorem mm_ent_len {n : Nat} {as : List Value} (h : (mm_lay as).length ≤ n) : (mm_ent n as).length = n := by
  unfold mm_ent
  rw [List.length_append, List.length_replicate]
  omega
theorem mm_ent_loc {n : Nat} {as : List Value} (h : (mm_lay as).length ≤ n) : mm_loc (mm_ent n as) ((lg_sl as ++ List.replicate (n - (lg_sl as).length) Slot.unset).toArray) := by
  have h0 : (lg_sl as).length ≤ n := by rw [mm_lay_len]; exact h
  obtain ⟨h1, h2, h3⟩ := lv_entry as h0
  refine ⟨h1.trans (mm_ent_len h).symm, h2, fun i v hi hv => ?_⟩
  unfold mm_ent at hi
  by_cases hl : i < (mm_lay as).length
  · rw [List.getElem?_append_left hl] at hi
    have h4 := mm_lay_mem as 0 i v hi hv
    rw [Nat.zero_add] at h4
    exact h3 (i, v) h4
  · rw [List.getElem?_append_right (by omega)] at hi
    have := List.getElem?_replicate (a := mm_un) (n := n - (mm_lay as).length) (i := i - (mm_lay as).length)
    rw [this] at hi
    split at hi
    · cases hi; exact absurd rfl hv
    · cases hi
def mm_prs (L : List Value) : List (Nat × Value) := (List.range L.length).filterMap (fun i => match L[i]? with
  | some v => if v = mm_un then none else some (i, v)
  | none => none)
theorem mm_prs_mem {L : List Value} {i : Nat} {v : Value} : (i, v) ∈ mm_prs L ↔ L[i]? = some v ∧ v ≠ mm_un := by
  unfold mm_prs
  rw [List.mem_filterMap]
  constructor
  · rintro ⟨j, -, hj⟩
    split at hj
    · rename_i w hw
      split at hj
      · cases hj
      · rename_i hne
        cases hj
        exact ⟨hw, hne⟩
    · cases hj
  · rintro ⟨h1, h2⟩
    refine ⟨i, List.mem_range.mpr (List.getElem?_eq_some_iff.mp h1).1, ?_⟩
    rw [h1]
    dsimp only
    rw [if_neg h2]
theorem mm_loc.has {L : List Value} {ls : Array Slot} (h : mm_loc L ls) : lv_has ls L.length (mm_prs L) := ⟨h.1, h.2.1, fun q hq => by
  obtain ⟨i, v⟩ := q
  obtain ⟨h1, h2⟩ := mm_prs_mem.mp hq
  exact h.2.2 i v h1 h2⟩
theorem mm_clr_len (L : List Value) (i : Nat) : (mm_clr L i).length = L.length := by
  unfold mm_clr
  split
  · rfl
  · split
    · split <;> simp
    · rfl
theorem mm_clr_get {L : List Value} {i j : Nat} {w : Value} (h : (mm_clr L i)[j]? = some w) (hw : w ≠ mm_un) : L[j]? = some w ∧ (j + 1 = i → w.category ≠ 2) := by
  unfold mm_clr at h
  split at h
  · exact ⟨h, fun q => by omega⟩
  · rename_i k
    split at h
    · rename_i v hv
      split at h
      · rename_i hwd
        by_cases hjk : j = k
        · subst hjk
          rw [List.getElem?_set_self (List.getElem?_eq_some_iff.mp hv).1] at h
          cases h
          exact absurd rfl hw
        · rw [List.getElem?_set_ne (fun q => hjk q.symm)] at h
          exact ⟨h, fun q => by omega⟩
      · rename_i hwd
        refine ⟨h, fun q => ?_⟩
        obtain rfl : j = k := by omega
        cases h.symm.trans hv
        exact fun q2 => hwd ((mm_wide_cat w).mpr q2)
    · rename_i hv
      refine ⟨h, fun q => ?_⟩
      obtain rfl : j = k := by omega
      cases h.symm.trans hv
theorem mm_st1_loc {L : List Value} {ls' : Array Slot} {i : Nat} {v : Value} (h : lv_has ls' L.length ((i, v) :: (mm_prs L).filter (fun q => !(q.1 == i) && !(q.1 + 1 == i && q.2.category == 2)))) : mm_loc (mm_st1 L i v) ls' := by
  obtain ⟨h1, h2, h3⟩ := h
  refine ⟨by rw [h1]; unfold mm_st1; rw [List.length_set, mm_clr_len], h2, fun j w hj hw => ?_⟩
  unfold mm_st1 at hj
  by_cases hji : j = i
  · subst hji
    have hlt : j < (mm_clr L j).length := by
      have := (List.getElem?_eq_some_iff.mp hj).1
      rwa [List.length_set] at this
    rw [List.getElem?_set_self hlt] at hj
    cases hj
    exact h3 (j, _) List.mem_cons_self
  · rw [List.getElem?_set_ne (fun q => hji q.symm)] at hj
    obtain ⟨g1, g2⟩ := mm_clr_get hj hw
    refine h3 (j, w) (List.mem_cons_of_mem _ (List.mem_filter.mpr ⟨mm_prs_mem.mpr ⟨g1, hw⟩, ?_⟩))
    by_cases hn : j + 1 = i
    · have := g2 hn
      simp [hji, this]
    · simp [hji, hn]
theorem mm_st2_loc {L : List Value} {ls' : Array Slot} {i : Nat} {v : Value} (h : lv_has ls' L.length ((i, v) :: (mm_prs L).filter (fun q => !(q.1 == i) && (!(q.1 == i + 1) && !(q.1 + 1 == i && q.2.category == 2))))) : mm_loc (mm_st2 L i v) ls' := by
  obtain ⟨h1, h2, h3⟩ := h
  refine ⟨by rw [h1]; unfold mm_st2; rw [List.length_set, List.length_set, mm_clr_len], h2, fun j w hj hw => ?_⟩
  unfold mm_st2 at hj
  by_cases hj1 : j = i + 1
  · subst hj1
    have hlt : i + 1 < ((mm_clr L i).set i v).length := by
      have := (List.getElem?_eq_some_iff.mp hj).1
      rwa [List.length_set] at this
    rw [List.getElem?_set_self hlt] at hj
    cases hj
    exact absurd rfl hw
  · rw [List.getElem?_set_ne (fun q => hj1 q.symm)] at hj
    by_cases hji : j = i
    · subst hji
      have hlt : j < (mm_clr L j).length := by
        have := (List.getElem?_eq_some_iff.mp hj).1
        rwa [List.length_set] at this
      rw [List.getElem?_set_self hlt] at hj
      cases hj
      exact h3 (j, _) List.mem_cons_self
    · rw [List.getElem?_set_ne (fun q => hji q.symm)] at hj
      obtain ⟨g1, g2⟩ := mm_clr_get hj hw
      refine h3 (j, w) (List.mem_cons_of_mem _ (List.mem_filter.mpr ⟨mm_prs_mem.mpr ⟨g1, hw⟩, ?_⟩))
      by_cases hn : j + 1 = i
      · have := g2 hn
        simp [hji, this, hj1]
      · simp [hji, hn, hj1]
