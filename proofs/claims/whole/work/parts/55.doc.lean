/-! DOCUMENTS: bytes B of a row, elements by their places -/
def q_sz (B : Nat → Nat) (v : Nat) : Nat := B v + 256 * B (v + 1) + 65536 * B (v + 2) + 16777216 * B (v + 3)
theorem q_w_sz (B : Nat → Nat) (v : Nat) : q_w B v = nI (q_sz B v) := rfl
def q_val (B : Nat → Nat) (p : Nat) : Nat := q_ne B p + 1
def q_ln (B : Nat → Nat) (kd k : Nat) : Nat := if kd = 16 then 4 else if kd = 18 then 8 else if kd = 8 then 1 else if kd = 2 then 4 + q_sz B k else if kd = 3 ∨ kd = 4 then q_sz B k else 0
def q_next (B : Nat → Nat) (p : Nat) : Nat := q_val B p + q_ln B (B p) (q_val B p)
/-- the last byte of the box at v -/
def q_last (B : Nat → Nat) (v : Nat) : Nat := v + q_sz B v - 1
theorem q_beh_ln (R : Nat → Nat) (kd k : Nat) : q_beh R kd k = nI (k + q_ln R kd k) := by
  unfold q_beh q_ln
  split
  · rfl
  · split
    · rfl
    · split
      · rfl
      · split
        · rw [q_w_sz, nI_add, Nat.add_assoc]
        · split
          · rw [q_w_sz, nI_add]
          · rfl
/-- the names of two elements are the same -/
def q_same (B : Nat → Nat) (x : Nat) (C : Nat → Nat) (y : Nat) : Bool := decide (q_bytes (fun i => B (x + 1 + i)) (q_ne B x - (x + 1)) (fun i => C (y + 1 + i)) (q_ne C y - (y + 1)) = 0)
def q_nm (B : Nat → Nat) (row : Bool) (prev : List Nat) (p : Nat) : Bool := if row = true then q_dec B (p + 1) (q_ne B p + 1) (q_ne B p) prev.length else prev.all (fun x => !q_same B x B p)
def q_vok (vb : Nat → Nat → Bool → Bool) (B : Nat → Nat) (p last : Nat) : Bool :=
  if B p = 16 then decide (q_val B p + 4 ≤ last) else if B p = 18 then decide (q_val B p + 8 ≤ last) else if B p = 8 then decide (q_val B p + 1 ≤ last) && decide (B (q_val B p) < 2)
  else if B p = 2 then decide (1 ≤ q_sz B (q_val B p)) && decide (q_val B p + 4 + q_sz B (q_val B p) ≤ last) && decide (B (q_val B p + 3 + q_sz B (q_val B p)) = 0)
  else if B p = 10 then true else if B p = 3 then vb (q_val B p) last false else if B p = 4 then vb (q_val B p) last true else false
def q_el (u : Nat → Bool) (vb : Nat → Nat → Bool → Bool) (B : Nat → Nat) (row : Bool) (last : Nat) (prev : List Nat) (p : Nat) : Bool := decide (q_ne B p < last) && q_nm B row prev p && q_vok vb B p last && u p
/-- the elements from p on, behind those of prev -/
def q_ch (u : Nat → Bool) (vb : Nat → Nat → Bool → Bool) (B : Nat → Nat) (row : Bool) (last : Nat) : Nat → List Nat → Nat → Bool
  | 0, _, _ => false
  | f + 1, prev, p => if p < last then q_el u vb B row last prev p && q_ch u vb B row last f (prev ++ [p]) (q_next B p) else decide (p = last)
def q_box (u : Nat → Bool) (B : Nat → Nat) : Nat → Nat → Nat → Bool → Bool
  | 0, _, _, _ => false
  | k + 1, v, stop, row => decide (v + 5 ≤ stop) && decide (5 ≤ q_sz B v) && decide (v + q_sz B v ≤ stop) && decide (B (q_last B v) = 0) && q_ch u (q_box u B k) B row (q_last B v) 2001 [] (v + 4)
/-- names and texts are right UTF-8 -/
def q_u8 (B : Nat → Nat) (p : Nat) : Bool := q_utf B (q_ne B p) (q_ne B p - (p + 1)) (p + 1) && (if B p = 2 then q_utf B (q_val B p + 3 + q_sz B (q_val B p)) (q_val B p + 3 + q_sz B (q_val B p) - (q_val B p + 4)) (q_val B p + 4) else true)
def q_doc (B : Nat → Nat) (n : Nat) : Bool := decide (q_sz B 0 = n) && q_box (q_u8 B) B 16 0 n false
/-! decimal digits, from their beginning on -/
def q_fw (B : Nat → Nat) : Nat → Nat → Nat → Option Nat
  | 0, _, v => some v
  | k + 1, i, v => if B i < 48 ∨ 57 < B i ∨ 1000 < v then none else q_fw B k (i + 1) (10 * v + B i - 48)
theorem q_fw_snoc (B : Nat → Nat) : ∀ k i v, q_fw B (k + 1) i v = (q_fw B k i v).bind (fun w => if B (i + k) < 48 ∨ 57 < B (i + k) ∨ 1000 < w then none else some (10 * w + B (i + k) - 48)) := by
  intro k
  induction k with
  | zero =>
    intro i v
    unfold q_fw
    rfl
  | succ k ih =>
    intro i v
    rw [q_fw]
    by_cases h : B i < 48 ∨ 57 < B i ∨ 1000 < v
    · rw [if_pos h]
      conv => rhs; rw [q_fw, if_pos h]
      rfl
    · rw [if_neg h, ih]
      conv => rhs; rw [q_fw, if_neg h]
      rw [show i + 1 + k = i + (k + 1) by omega]
theorem q_fw_le (B : Nat → Nat) : ∀ k i v w, q_fw B k i v = some w → v ≤ w ∧ (v = 0 → w = 0 → ∀ j, i ≤ j → j < i + k → B j = 48) := by
  intro k
  induction k with
  | zero =>
    intro i v w h
    cases h
    exact ⟨Nat.le_refl _, fun _ _ j h1 h2 => by omega⟩
  | succ k ih =>
    intro i v w h
    rw [q_fw] at h
    split at h
    · cases h
    · rename_i hc
      obtain ⟨a1, a2⟩ := ih _ _ _ h
      refine ⟨by omega, fun hv hw j h1 h2 => ?_⟩
      by_cases hj : j = i
      · rw [hj]; omega
      · exact a2 (by omega) hw j (by omega) (by omega)
/-- digits from the end, digits from the beginning -/
theorem q_dec_fw (B : Nat → Nat) (fr : Nat) : ∀ (len f num : Nat), len < f → num ≤ 1000 → q_dec B fr f (fr + len) num = (match q_fw B len fr 0 with
    | none => false
    | some v => decide (0 < len) && decide (v = num) && (decide (len = 1) || !decide (B fr = 48))) := by
  intro len
  induction len with
  | zero =>
    intro f num hf hn
    obtain ⟨g, rfl⟩ : ∃ g, f = g + 1 := ⟨f - 1, by omega⟩
    unfold q_dec
    rw [if_pos (by omega)]
    rfl
  | succ len ih =>
    intro f num hf hn
    obtain ⟨g, rfl⟩ : ∃ g, f = g + 1 := ⟨f - 1, by omega⟩
    unfold q_dec
    rw [if_neg (by omega), q_fw_snoc, show fr + (len + 1) - 1 = fr + len by omega, decide_eq_true (show 0 < len + 1 by omega)]
    have hih := ih g (num / 10) (by omega) (by omega)
    by_cases hd : B (fr + len) < 48 ∨ 57 < B (fr + len)
    · rw [if_neg (by omega)]
      cases hq : q_fw B len fr 0 with
      | none => rfl
      | some w =>
        rw [Option.bind_some, if_pos (by omega)]
    · by_cases he : B (fr + len) = 48 + num % 10
      · rw [if_pos he]
        by_cases h0 : 0 < num / 10
        · rw [if_pos h0, hih]
          cases hq : q_fw B len fr 0 with
          | none => rfl
          | some w =>
            rw [Option.bind_some]
            by_cases hw : w = num / 10
            · rw [if_neg (by omega)]
              simp only [Bool.true_and]
              have hl : 0 < len := by
                by_cases hl : 0 < len
                · exact hl
                · have : len = 0 := by omega
                  subst this
                  cases hq
                  omega
              rw [decide_eq_true hl, decide_eq_true hw, decide_eq_true (show 10 * w + B (fr + len) - 48 = num by omega), decide_eq_false (show ¬ len + 1 = 1 by omega)]
              by_cases h1 : len = 1
              · subst h1
                rw [decide_eq_true rfl]
                have h48 : ¬ B fr = 48 := by
                  intro q
                  rw [q_fw, q_fw] at hq
                  rw [q] at hq
                  simp at hq
                  omega
                rw [decide_eq_false h48]
                rfl
              · rw [decide_eq_false h1]
                rfl
            · show (decide (0 < len) && decide (w = num / 10) && _) = _
              rw [decide_eq_false hw, Bool.and_false, Bool.false_and]
              by_cases hw2 : B (fr + len) < 48 ∨ 57 < B (fr + len) ∨ 1000 < w
              · rw [if_pos hw2]
              · rw [if_neg hw2]
                simp only [Bool.true_and]
                rw [decide_eq_false (show ¬ 10 * w + B (fr + len) - 48 = num by omega), Bool.false_and]
        · rw [if_neg h0]
          cases hq : q_fw B len fr 0 with
          | none =>
            by_cases hl : len = 0
            · subst hl
              cases hq
            · rw [decide_eq_false (by omega)]
              rfl
          | some w =>
            rw [Option.bind_some]
            by_cases hl : len = 0
            · subst hl
              cases hq
              rw [if_neg (by omega), decide_eq_true (show fr + 0 = fr from rfl)]
              simp only [Bool.true_and]
              rw [decide_eq_true (show 10 * 0 + B (fr + 0) - 48 = num by omega)]
              rfl
            · rw [decide_eq_false (show ¬ fr + len = fr by omega)]
              by_cases hw2 : B (fr + len) < 48 ∨ 57 < B (fr + len) ∨ 1000 < w
              · rw [if_pos hw2]
              · rw [if_neg hw2]
                simp only [Bool.true_and]
                by_cases hw : 10 * w + B (fr + len) - 48 = num
                · have hw0 : w = 0 := by omega
                  have h48 := (q_fw_le B len fr 0 w hq).2 rfl hw0 fr (by omega) (by omega)
                  rw [decide_eq_true hw, decide_eq_false (show ¬ len + 1 = 1 by omega), decide_eq_true h48]
                  rfl
                · rw [decide_eq_false hw, Bool.false_and]
      · rw [if_neg he]
        cases hq : q_fw B len fr 0 with
        | none => rfl
        | some w =>
          rw [Option.bind_some]
          by_cases hw2 : B (fr + len) < 48 ∨ 57 < B (fr + len) ∨ 1000 < w
          · rw [if_pos hw2]
          · rw [if_neg hw2]
            simp only [Bool.true_and]
            rw [decide_eq_false (show ¬ 10 * w + B (fr + len) - 48 = num by omega), Bool.false_and]
