def mm_pcH (is : List mmI) : Nat := (is.head?.map (fun i => i.1)).getD 0
/-- a return instruction for that answer -/
def mm_rd (m pc : Nat) (r : Option Value) : Prop := match r with
  | none => decode (mm_by m) pc = .ok (.return_, 1) ∧ mm_re m = none
  | some (.int v) => decode (mm_by m) pc = .ok (.ireturn, 1) ∧ ∃ ty, mm_re m = some ty ∧ narrow ty (.int v) = .int v
  | some (.long _) => decode (mm_by m) pc = .ok (.lreturn, 1) ∧ mm_re m = some .long
  | some v => decode (mm_by m) pc = .ok (.areturn, 1) ∧ (∃ rt, mm_re m = some rt ∧ ((∃ n, rt = .object n) ∨ ∃ t, rt = .array t)) ∧ (v = .null ∨ ∃ a, v = .ref a)
def mm_gen (i : Instr) : Bool := match i with
  | .athrow => false
  | .nop => false
  | .tableswitch _ _ _ _ => false
  | _ => true
theorem mm_ddS {bs : ByteArray} {pc n : Nat} {ins : Instr} (h : mm_dd bs pc ins n = true) : decode bs pc = .ok (ins, n) := by
  unfold mm_dd at h
  split at h
  · rename_i j k hj
    simp only [Bool.and_eq_true, decide_eq_true_eq] at h
    rw [hj, h.1, h.2]
  · cases h
def mm_nk (nx : Option Nat) (k0 : Nat) : Bool := match nx with
  | some k => decide (k = k0)
  | none => true
theorem mm_dkS {bs : ByteArray} {pc : Nat} {ins : Instr} {ex : List Nat} {nx : Option Nat} (hg : mm_gen ins = true) (h : mm_dk bs (pc, ins, ex) nx = true) : decode bs pc = .ok (ins, mm_ln ins) ∧ ∀ k, nx = some k → k = pc + mm_ln ins := by
  have h2 : (mm_dd bs pc ins (mm_ln ins) && mm_nk nx (pc + mm_ln ins)) = true := by
    cases ins <;> first | exact h | cases hg
  rw [Bool.and_eq_true] at h2
  refine ⟨mm_ddS h2.1, fun k hk => ?_⟩
  rw [hk] at h2
  exact of_decide_eq_true h2.2
theorem mm_dtS {bs : ByteArray} {pc : Nat} {df lo hi : Int} {offs : Array Int} {ex : List Nat} {nx : Option Nat} (h : mm_dk bs (pc, .tableswitch df lo hi offs, ex) nx = true) : ∃ n, decode bs pc = .ok (.tableswitch df lo hi offs, n) := by
  have h2 : mm_dt bs pc (.tableswitch df lo hi offs) = true := h
  unfold mm_dt at h2
  split at h2
  · rename_i j k hj
    exact ⟨k, by rw [hj, of_decide_eq_true h2]⟩
  · cases h2
theorem mm_toS {m pc b : Nat} {o : Int} (h : mm_to m pc o b = true) : ∃ t, mm_hd m b = some t ∧ (pc : Int) + o = (t : Int) := by
  unfold mm_to at h
  split at h
  · rename_i t ht
    exact ⟨t, ht, of_decide_eq_true h⟩
  · cases h
section INV
variable {S : List Value} {nx : List Value → List Value → mmH → Option (Option Value × mmH)} {br : Bool → Nat → List Value → Option (Option Value × mmH)} {jp : Nat → List Value → Option (Option Value × mmH)} {rt : Option Value → Option (Option Value × mmH)} {cl : Nat → List Value → List Value → Option (Option Value × mmH)} {v : Option Value × mmH}
theorem inv_ii {f : Int32 → Int32 → List Value → mmO} (h : mm_then (mm_ii S f) none nx br jp rt cl = some v) : ∃ x y r, S = .int y :: .int x :: r ∧ mm_then (f x y r) none nx br jp rt cl = some v := by
  unfold mm_ii at h
  split at h
  · exact ⟨_, _, _, rfl, h⟩
  · cases h
theorem inv_ll {f : Int64 → Int64 → List Value → mmO} (h : mm_then (mm_ll S f) none nx br jp rt cl = some v) : ∃ x y r, S = .long y :: .long x :: r ∧ mm_then (f x y r) none nx br jp rt cl = some v := by
  unfold mm_ll at h
  split at h
  · exact ⟨_, _, _, rfl, h⟩
  · cases h
theorem inv_li {f : Int64 → Int32 → List Value → mmO} (h : mm_then (mm_li S f) none nx br jp rt cl = some v) : ∃ x y r, S = .int y :: .long x :: r ∧ mm_then (f x y r) none nx br jp rt cl = some v := by
  unfold mm_li at h
  split at h
  · exact ⟨_, _, _, rfl, h⟩
  · cases h
theorem inv_i {f : Int32 → List Value → mmO} (h : mm_then (mm_i S f) none nx br jp rt cl = some v) : ∃ x r, S = .int x :: r ∧ mm_then (f x r) none nx br jp rt cl = some v := by
  unfold mm_i at h
  split at h
  · exact ⟨_, _, rfl, h⟩
  · cases h
theorem inv_l {f : Int64 → List Value → mmO} (h : mm_then (mm_l S f) none nx br jp rt cl = some v) : ∃ x r, S = .long x :: r ∧ mm_then (f x r) none nx br jp rt cl = some v := by
  unfold mm_l at h
  split at h
  · exact ⟨_, _, rfl, h⟩
  · cases h
theorem inv_a {f : Nat → List Value → mmO} (h : mm_then (mm_a S f) none nx br jp rt cl = some v) : ∃ x r, S = .ref x :: r ∧ mm_then (f x r) none nx br jp rt cl = some v := by
  unfold mm_a at h
  split at h
  · exact ⟨_, _, rfl, h⟩
  · cases h
theorem inv_ia {f : Int32 → Nat → List Value → mmO} (h : mm_then (mm_ia S f) none nx br jp rt cl = some v) : ∃ i a r, S = .int i :: .ref a :: r ∧ mm_then (f i a r) none nx br jp rt cl = some v := by
  unfold mm_ia at h
  split at h
  · exact ⟨_, _, _, rfl, h⟩
  · cases h
theorem inv_if {c : Prop} [Decidable c] {o : mmO} (h : mm_then (if c then o else mm_bad) none nx br jp rt cl = some v) : c ∧ mm_then o none nx br jp rt cl = some v := by
  by_cases hc : c
  · rw [if_pos hc] at h
    exact ⟨hc, h⟩
  · rw [if_neg hc] at h
    cases h
theorem inv_fi {c : Prop} [Decidable c] {o : mmO} (h : mm_then (if c then mm_bad else o) none nx br jp rt cl = some v) : ¬ c ∧ mm_then o none nx br jp rt cl = some v := by
  by_cases hc : c
  · rw [if_pos hc] at h
    cases h
  · rw [if_neg hc] at h
    exact ⟨hc, h⟩
theorem inv_ld {L : List Value} {h0 : mmH} {i t : Nat} (h : mm_then (mm_ld L S h0 i t) none nx br jp rt cl = some v) : ∃ w, L[i]? = some w ∧ w ≠ mm_un ∧ nx L (w :: S) h0 = some v ∧ ((t = 0 ∧ ∃ x, w = .int x) ∨ (t = 2 ∧ ∃ x, w = .long x) ∨ (t = 3 ∧ (w = .null ∨ ∃ a, w = .ref a))) := by
  unfold mm_ld at h
  split at h
  · obtain ⟨ht, h⟩ := inv_if h
    exact ⟨_, by assumption, (fun q => by cases q), h, Or.inl ⟨ht, _, rfl⟩⟩
  · obtain ⟨ht, h⟩ := inv_if h
    exact ⟨_, by assumption, (fun q => by cases q), h, Or.inr (Or.inl ⟨ht, _, rfl⟩)⟩
  · obtain ⟨ht, h⟩ := inv_if h
    exact ⟨_, by assumption, (fun q => by cases q), h, Or.inr (Or.inr ⟨ht, Or.inl rfl⟩)⟩
  · obtain ⟨ht, h⟩ := inv_if h
    exact ⟨_, by assumption, (fun q => by cases q), h, Or.inr (Or.inr ⟨ht, Or.inr ⟨_, rfl⟩⟩)⟩
  · cases h
theorem inv_sto {L : List Value} {h0 : mmH} {i t : Nat} (h : mm_then (mm_sto L S h0 i t) none nx br jp rt cl = some v) : ∃ w r, S = w :: r ∧ ((t = 0 ∧ i < L.length ∧ (∃ x, w = .int x) ∧ nx (mm_st1 L i w) r h0 = some v) ∨ (t = 2 ∧ i + 1 < L.length ∧ (∃ x, w = .long x) ∧ nx (mm_st2 L i w) r h0 = some v) ∨ (t = 3 ∧ i < L.length ∧ (w = .null ∨ ∃ a, w = .ref a) ∧ nx (mm_st1 L i w) r h0 = some v)) := by
  unfold mm_sto at h
  split at h
  · obtain ⟨ht, h⟩ := inv_if h
    exact ⟨_, _, rfl, Or.inl ⟨ht.1, ht.2, ⟨_, rfl⟩, h⟩⟩
  · obtain ⟨ht, h⟩ := inv_if h
    exact ⟨_, _, rfl, Or.inr (Or.inl ⟨ht.1, ht.2, ⟨_, rfl⟩, h⟩)⟩
  · obtain ⟨ht, h⟩ := inv_if h
    exact ⟨_, _, rfl, Or.inr (Or.inr ⟨ht.1, ht.2, Or.inl rfl, h⟩)⟩
  · obtain ⟨ht, h⟩ := inv_if h
    exact ⟨_, _, rfl, Or.inr (Or.inr ⟨ht.1, ht.2, Or.inr ⟨_, rfl⟩, h⟩)⟩
  · cases h
end INV
/-- an outcome makes the heap no smaller -/
def mm_om (h : mmH) (o : mmO) : Prop := match o with
  | .inr (.inl (_, _, h')) => h.1 ≤ h'.1 ∧ h.2.1 ≤ h'.2.1
  | _ => True
theorem mm_om_step (E : mmE) (L S : List Value) (h : mmH) (ins : Instr) (ex : List Nat) : mm_om h (mm_step E L S h ins ex) := by
  unfold mm_step
  split
  all_goals repeat' (first | (exact trivial) | (exact ⟨Nat.le_refl _, Nat.le_refl _⟩) | (exact ⟨Nat.le_succ _, Nat.le_add_right _ _⟩) | (unfold mm_ii) | (unfold mm_ll) | (unfold mm_li) | (unfold mm_ia) | (unfold mm_i) | (unfold mm_l) | (unfold mm_a) | (unfold mm_ld) | (unfold mm_sto) | (unfold mm_copy) | (unfold mm_call) | split | (dsimp only))
theorem mm_mono {E : mmE} : ∀ (f d m : Nat) (is : List mmI) (L S : List Value) (h : mmH) (r : Option Value) (hF : mmH), mm_run E f d m is L S h = some (r, hF) → h.1 ≤ hF.1 ∧ h.2.1 ≤ hF.2.1 := by
  intro f
  induction f with
  | zero => intro d m is L S h r hF hrun; cases hrun
  | succ f ih =>
    intro d m is L S h r hF hrun
    cases is with
    | nil => cases hrun
    | cons i is =>
      have hom := mm_om_step E L S h i.2.1 i.2.2
      rw [mm_run] at hrun
      generalize mm_step E L S h i.2.1 i.2.2 = o at hrun hom
      match o, hrun, hom with
      | .inl _, hrun, _ => cases hrun
      | .inr (.inl (L', S', h')), hrun, hom =>
        have h2 := ih _ _ _ _ _ _ _ _ hrun
        exact ⟨Nat.le_trans hom.1 h2.1, Nat.le_trans hom.2 h2.2⟩
      | .inr (.inr (.inl (cnd, b, S'))), hrun, _ =>
        have hrun : (if cnd then mm_run E f d m (mm_blk m b) L S' h else mm_run E f d m is L S' h) = some (r, hF) := hrun
        cases cnd with
        | true => exact ih _ _ _ _ _ _ _ _ hrun
        | false => exact ih _ _ _ _ _ _ _ _ hrun
      | .inr (.inr (.inr (.inl (b, S')))), hrun, _ => exact ih _ _ _ _ _ _ _ _ hrun
      | .inr (.inr (.inr (.inr (.inl w)))), hrun, _ =>
        have hrun : some (w, h) = some (r, hF) := hrun
        cases hrun
        exact ⟨Nat.le_refl _, Nat.le_refl _⟩
      | .inr (.inr (.inr (.inr (.inr (k, as, r'))))), hrun, _ =>
        cases d with
        | zero => cases hrun
        | succ d' =>
          have hrun : (if (mm_lay as).length ≤ mm_maxL k ∧ (mm_iss.getD k true || mm_hr as) = true then (match mm_run E f d' k (mm_blk k 0) (mm_ent (mm_maxL k) as) [] h with
            | some (v, h') => mm_run E f (d' + 1) m is L (v.toList ++ r') h'
            | none => none) else none) = some (r, hF) := hrun
          split at hrun
          · split at hrun
            · rename_i w h' hw
              have h1 := ih _ _ _ _ _ _ _ _ hw
              have h2 := ih _ _ _ _ _ _ _ _ hrun
              exact ⟨Nat.le_trans h1.1 h2.1, Nat.le_trans h1.2 h2.2⟩
            · cases hrun
          · cases hrun
