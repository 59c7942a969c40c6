/-! THE FAULTS OF A FILTER -/
def q_cnt (c m : Nat) : Nat × Nat := if 100 < c + m then (5, c + m) else (0, c + m)
def q_then (r : Nat × Nat) (g : Nat → Nat × Nat) : Nat × Nat := if r.1 = 0 then g r.2 else r
def q_lp (B : Nat → Nat) (last : Nat) (body : Nat → Nat → Nat × Nat) : Nat → Nat → Nat → Nat × Nat
  | 0, _, c => (0, c)
  | f + 1, p, c => if p < last then q_then (body p c) (fun c' => q_lp B last body f (q_next B p) c') else (0, c)
/-- a path as a filter has it -/
def q_gp (B : Nat → Nat) (p : Nat) : Bool := q_steps B false (q_ne B p - (p + 1)) (p + 1) true 0
def q_ofi (B : Nat → Nat) (p : Nat) : Bool := q_cond B p && !q_join B (q_val B p + 4)
def q_good (B : Nat → Nat) (p w : Nat) : Bool :=
  if w = 7 ∨ w = 8 then decide (B p = 4) else if w = 13 then decide (B p = 8) else if w = 14 then decide (B p = 16 ∨ B p = 18) && decide (0 ≤ q_num B (B p) (q_val B p)) else if w = 15 then decide (B p = 3) else if w = 16 then q_cond B p else true
def q_flt (B : Nat → Nat) : Nat → Bool → Nat → Nat → Nat × Nat
  | 0, _, _, c => (0, c)
  | k + 1, false, v, c => q_lp B (q_last B v) (fun e c =>
      if q_word B e = 0 then (if q_gp B e = false then (3, c) else if q_cond B e = true then q_then (q_cnt c 1) (fun c => q_flt B k true (q_val B e) c) else q_cnt c 2)
      else if q_join B e = false then (1, c) else if B e ≠ 4 ∨ q_sz B (q_val B e) = 5 then (2, c) else q_then (q_cnt c 1) (fun c => q_lp B (q_last B (q_val B e)) (fun i c => if B i = 3 then q_flt B k false (q_val B i) c else (2, c)) 2001 (q_val B e + 4) c)) 2001 (v + 4) c
  | k + 1, true, v, c => q_lp B (q_last B v) (fun e c =>
      if q_nof (q_word B e) = 0 then (1, c) else if q_good B e (q_word B e) = false then (4, c) else q_then (q_cnt c 1) (fun c => if q_word B e = 16 then q_flt B k true (q_val B e) c else if q_word B e = 15 then (if q_ofi B e = true then q_flt B k true (q_val B e) c else q_flt B k false (q_val B e) c) else (0, c))) 2001 (v + 4) c
/-- while there is no fault, at most 100 are counted -/
def q_le1 (r : Nat × Nat) : Prop := r.1 ≤ 5 ∧ (r.1 = 0 → r.2 ≤ 100)
theorem q_le_cnt {c m : Nat} : q_le1 (q_cnt c m) := by
  unfold q_cnt
  split
  · exact ⟨Nat.le_refl _, fun h => Nat.noConfusion h⟩
  · exact ⟨Nat.zero_le _, fun _ => by show c + m ≤ 100; omega⟩
theorem q_le_then {r : Nat × Nat} {g : Nat → Nat × Nat} (h : q_le1 r) (hg : ∀ c, c ≤ 100 → q_le1 (g c)) : q_le1 (q_then r g) := by
  unfold q_then
  split
  · exact hg _ (h.2 ‹_›)
  · exact h
theorem q_le_0 {c : Nat} (hc : c ≤ 100) : q_le1 (0, c) := ⟨Nat.zero_le _, fun _ => hc⟩
theorem q_le_lp {B : Nat → Nat} {last : Nat} {body : Nat → Nat → Nat × Nat} (hb : ∀ p c, c ≤ 100 → q_le1 (body p c)) : ∀ f p c, c ≤ 100 → q_le1 (q_lp B last body f p c) := by
  intro f
  induction f with
  | zero => intro p c hc; exact q_le_0 hc
  | succ f ih =>
    intro p c hc
    unfold q_lp
    split
    · exact q_le_then (hb p c hc) (fun c' hc' => ih _ c' hc')
    · exact q_le_0 hc
theorem q_le_f {c x : Nat} (hx : x ≠ 0 ∧ x ≤ 5) : q_le1 (x, c) := ⟨hx.2, fun h => absurd h hx.1⟩
theorem q_flt_le (B : Nat → Nat) : ∀ k m v c, c ≤ 100 → q_le1 (q_flt B k m v c) := by
  intro k
  induction k with
  | zero => intro m v c hc; exact q_le_0 hc
  | succ k ih =>
    intro m v c hc
    cases m with
    | false =>
      unfold q_flt
      refine q_le_lp (fun e c hc => ?_) _ _ _ hc
      split
      · split
        · exact q_le_f (by decide)
        · split
          · exact q_le_then q_le_cnt (fun c hc => ih _ _ _ hc)
          · exact q_le_cnt
      · split
        · exact q_le_f (by decide)
        · split
          · exact q_le_f (by decide)
          · refine q_le_then q_le_cnt (fun c hc => q_le_lp (fun i c hc => ?_) _ _ _ hc)
            split
            · exact ih _ _ _ hc
            · exact q_le_f (by decide)
    | true =>
      unfold q_flt
      refine q_le_lp (fun e c hc => ?_) _ _ _ hc
      split
      · exact q_le_f (by decide)
      · split
        · exact q_le_f (by decide)
        · refine q_le_then q_le_cnt (fun c hc => ?_)
          split
          · exact ih _ _ _ hc
          · split
            · split
              · exact ih _ _ _ hc
              · exact ih _ _ _ hc
            · exact q_le_0 hc
/-! names as paths: the reference looks for the dollars behind dots in a walk of its own -/
theorem q_steps_sh (B : Nat → Nat) (dol : Bool) (s : Nat) : ∀ k i op st, q_steps (fun j => B (s + j)) dol k i op st = q_steps B dol k (s + i) op st := by
  intro k
  induction k with
  | zero => intro i op st; rfl
  | succ k ih =>
    intro i op st
    unfold q_steps
    rw [ih]
    rfl
def q_nd (B : Nat → Nat) : Nat → Nat → Bool
  | 0, _ => true
  | k + 1, i => !(decide (B i = 36) && decide (B (i - 1) = 46)) && q_nd B k (i + 1)
theorem q_steps_nd (B : Nat → Nat) : ∀ k i op st, (op = true ↔ B (i - 1) = 46) → q_steps B false k i op st = (q_steps B true k i op st && q_nd B k i) := by
  intro k
  induction k with
  | zero => intro i op st _; unfold q_steps q_nd; rw [Bool.and_true]
  | succ k ih =>
    intro i op st ho
    have hn := ih (i + 1) (decide (B i = 46)) (if op then st + 1 else st) (by rw [Nat.add_sub_cancel, decide_eq_true_eq])
    unfold q_steps q_nd
    by_cases h1 : B i = 0 ∨ op = true ∧ (B i = 46 ∨ B i = 36 ∧ true = false)
    · rw [if_pos h1, if_pos (h1.imp_right (fun q => ⟨q.1, Or.inl (q.2.resolve_right (fun z => Bool.noConfusion z.2))⟩))]
      rfl
    · rw [if_neg h1]
      by_cases h2 : op = true ∧ B i = 36
      · rw [if_pos (Or.inr ⟨h2.1, Or.inr ⟨h2.2, rfl⟩⟩), decide_eq_true h2.2, decide_eq_true (ho.mp h2.1)]
        simp
      · rw [if_neg (fun q => q.elim (fun q => h1 (Or.inl q)) (fun q => q.2.elim (fun z => h1 (Or.inr ⟨q.1, Or.inl z⟩)) (fun z => h2 ⟨q.1, z.1⟩))), hn]
        have : (decide (B i = 36) && decide (B (i - 1) = 46)) = false := by
          rw [Bool.and_eq_false_iff, decide_eq_false_iff_not, decide_eq_false_iff_not]
          by_cases h3 : B i = 36
          · exact Or.inr (fun z => h2 ⟨ho.mpr z, h3⟩)
          · exact Or.inl h3
        rw [this]
        rfl
theorem q_gp_is {B : Nat → Nat} {p : Nat} (h36 : B (p + 1) ≠ 36) (hu : q_utf (fun j => B (p + 1 + j)) (q_ne B p - (p + 1)) (q_ne B p - (p + 1)) 0 = true) : q_gp B p = (q_path (fun j => B (p + 1 + j)) (q_ne B p - (p + 1)) && q_nd B (q_ne B p - (p + 2)) (p + 2)) := by
  unfold q_gp q_path
  rw [hu, Bool.true_and, q_steps_sh]
  cases hk : q_ne B p - (p + 1) with
  | zero =>
    unfold q_steps
    rfl
  | succ k =>
    rw [show q_ne B p - (p + 2) = k by omega]
    unfold q_steps
    show (if B (p + 1) = 0 ∨ true = true ∧ (B (p + 1) = 46 ∨ B (p + 1) = 36 ∧ false = false) then false else _) = ((if B (p + 1) = 0 ∨ true = true ∧ (B (p + 1) = 46 ∨ B (p + 1) = 36 ∧ true = false) then false else _) && _)
    by_cases h1 : B (p + 1) = 0 ∨ B (p + 1) = 46
    · rw [if_pos (h1.imp_right (fun q => ⟨rfl, Or.inl q⟩)), if_pos (h1.imp_right (fun q => ⟨rfl, Or.inl q⟩))]
      rfl
    · rw [if_neg (show ¬ (B (p + 1) = 0 ∨ true = true ∧ (B (p + 1) = 46 ∨ B (p + 1) = 36 ∧ false = false)) from fun q => q.elim (fun q => h1 (Or.inl q)) (fun q => q.2.elim (fun z => h1 (Or.inr z)) (fun z => h36 z.1))), if_neg (show ¬ (B (p + 1) = 0 ∨ true = true ∧ (B (p + 1) = 46 ∨ B (p + 1) = 36 ∧ true = false)) from fun q => q.elim (fun q => h1 (Or.inl q)) (fun q => q.2.elim (fun z => h1 (Or.inr z)) (fun z => h36 z.1)))]
      exact q_steps_nd B k (p + 2) (decide (B (p + 1) = 46)) _ decide_eq_true_iff
/-- UTF-8 from a place on -/
theorem q_uc_sh (B : Nat → Nat) (s p : Nat) : ∀ k i v, q_uc (fun j => B (s + j)) p k i v = q_uc B (s + p) k i v := by
  intro k
  induction k with
  | zero => intro i v; rfl
  | succ k ih =>
    intro i v
    unfold q_uc
    rw [ih]
    rw [Nat.add_assoc]
theorem q_chr_sh (B : Nat → Nat) (s p e : Nat) : q_chr (fun j => B (s + j)) p e = q_chr B (s + p) (s + e) := by
  unfold q_chr
  rw [q_uc_sh, show s + e - (s + p) = e - p by omega]
theorem q_utf_sh (B : Nat → Nat) (s e : Nat) : ∀ k p, q_utf (fun j => B (s + j)) e k p = q_utf B (s + e) k (s + p) := by
  intro k
  induction k with
  | zero => intro p; rfl
  | succ k ih =>
    intro p
    unfold q_utf
    rw [q_chr_sh, ih, Nat.add_assoc]
    by_cases h : e ≤ p
    · rw [if_pos h, if_pos (by omega)]
    · rw [if_neg h, if_neg (show ¬ s + e ≤ s + p by omega)]
theorem q_u8_nm {B : Nat → Nat} {p : Nat} (hu : q_u8 B p = true) (hp : p + 1 ≤ q_ne B p) : q_utf (fun j => B (p + 1 + j)) (q_ne B p - (p + 1)) (q_ne B p - (p + 1)) 0 = true := by
  rw [q_utf_sh, show p + 1 + (q_ne B p - (p + 1)) = q_ne B p by omega]
  rw [q_u8_tx, Bool.and_eq_true] at hu
  exact hu.1
