theorem row_len {E : mmE} {h : mmH} {a n : Nat} {B : Nat → Nat} (hb : bRow h a n B) : mm_len E h a = some n := by
  obtain ⟨-, ⟨f, ha, -⟩, -⟩ := hb
  unfold mm_len
  rw [ha]
/-- a truth as an int -/
def q_t (b : Bool) : Int32 := if b then 1 else 0
theorem sp_areEqual {E : mmE} {d a b n m : Nat} {h : mmH} {Q : Option Value → mmH → Prop} {A B : Nat → Nat} (hd : 2 ≤ d) (ha : bRow h a n A) (hb : bRow h b m B) (hq : Q (some (.int (q_t (decide (q_bytes A n B m = 0))))) h) : mm_Go E d 13 (mm_blk 13 0) [.ref a, .ref b] [] h Q := by
  have hn := ha.1
  have hm := hb.1
  repeat refine go_step ?_
  refine g_alen (row_len ha) ?_
  repeat refine go_step ?_
  refine g_alen (row_len hb) ?_
  repeat refine go_step ?_
  refine g_call (k := 14) rfl (by omega) (Nat.le_of_ble_eq_true rfl) rfl ?_
  refine sp_compare (aF := 0) (aT := n) (bF := 0) (bT := m) (by omega) ha hb (by omega) hn (by omega) hm ?_
  have e : q_bytes (fun i => A (0 + i)) (n - 0) (fun i => B (0 + i)) (m - 0) = q_bytes A n B m := by simp only [Nat.zero_add, Nat.sub_zero]
  rw [e]
  repeat refine go_step ?_
  refine gif (fun c => ?_) (fun c => ?_)
  · rw [decide_eq_false c] at hq
    repeat refine go_step ?_
    refine gjp ?_
    repeat refine go_step ?_
    exact gjp hq
  · rw [decide_eq_true (Classical.not_not.mp c)] at hq
    repeat refine go_step ?_
    refine gjp ?_
    repeat refine go_step ?_
    exact gjp hq
/-- k characters from i on are T's -/
def q_eqs (A T : Nat → Nat) : Nat → Nat → Bool
  | 0, _ => true
  | k + 1, i => if A i = T i then q_eqs A T k (i + 1) else false
def q_isw (B : Nat → Nat) (fr to n : Nat) (T : Nat → Nat) : Bool := decide (to - fr = n) && q_eqs (fun i => B (fr + i)) T n 0
theorem sp_isWord {E : mmE} {d a s n len fr to : Nat} {h : mmH} {Q : Option Value → mmH → Prop} {B T : Nat → Nat} (hd : 4 ≤ d) (ho : sOld E h) (ha : bRow h a n B) (hs : strAt E s len T) (hT : ∀ j, j < len → T j < 256) (h1 : fr ≤ to) (h2 : to ≤ 2000) (hq : Q (some (.int (q_t (q_isw B fr to len T)))) h) : mm_Go E d 28 (mm_blk 28 0) [.ref a, .int (nI fr), .int (nI to), .ref s, mm_un] [] h Q := by
  have hlen : len < 1000 := hs.2.2.2.1
  have hB := ha.2.2.1
  have loop : ∀ (k i : Nat), k + i = len → to - fr = len → Q (some (.int (q_t (q_eqs (fun i => B (fr + i)) T k i)))) h → mm_Go E d 28 (mm_blk 28 2) [.ref a, .int (nI fr), .int (nI to), .ref s, .int (nI i)] [] h Q := by
    intro k
    induction k with
    | zero =>
      intro i hk hl hq
      repeat refine go_step ?_
      refine g_callV (by decide) (by decide) (Nat.le_of_ble_eq_true rfl) (Nat.le_of_ble_eq_true rfl) (str_rcv hs) (by omega) (Nat.le_of_ble_eq_true rfl) rfl ?_
      refine sp_slen (by omega) ho hs ?_
      repeat refine go_step ?_
      refine gif (fun c => ?_) (fun c => absurd (nI_le (by omega) (by omega)) c)
      repeat refine go_step ?_
      exact gjp hq
    | succ k ih =>
      intro i hk hl hq
      repeat refine go_step ?_
      refine g_callV (by decide) (by decide) (Nat.le_of_ble_eq_true rfl) (Nat.le_of_ble_eq_true rfl) (str_rcv hs) (by omega) (Nat.le_of_ble_eq_true rfl) rfl ?_
      refine sp_slen (by omega) ho hs ?_
      repeat refine go_step ?_
      refine gif (fun c => absurd c (nI_ge (by omega) (by omega))) (fun c => ?_)
      repeat refine go_step ?_
      refine g_call (k := 11) rfl (by omega) (Nat.le_of_ble_eq_true rfl) rfl ?_
      rw [nI_add]
      refine sp_atN ha (by omega) ?_
      repeat refine go_step ?_
      refine g_callV (by decide) (by decide) (Nat.le_of_ble_eq_true rfl) (Nat.le_of_ble_eq_true rfl) (str_rcv hs) (by omega) (Nat.le_of_ble_eq_true rfl) rfl ?_
      refine sp_charAt (by omega) ho hs (by omega) ?_
      have e1 := hB (fr + i)
      have e2 := hT i (by omega)
      unfold q_eqs at hq
      repeat refine go_step ?_
      refine gif (fun c2 => ?_) (fun c2 => ?_)
      · rw [if_pos ((nI_eq (by omega) (by omega)).mp c2)] at hq
        repeat refine go_step ?_
        refine gjp ?_
        rw [show nI i + Int32.ofInt 1 = nI (i + 1) from nI_1 i]
        exact ih (i + 1) (by omega) hl hq
      · rw [if_neg (fun q => c2 (by rw [q]))] at hq
        repeat refine go_step ?_
        exact gjp hq
  repeat refine go_step ?_
  refine g_callV (by decide) (by decide) (Nat.le_of_ble_eq_true rfl) (Nat.le_of_ble_eq_true rfl) (str_rcv hs) (by omega) (Nat.le_of_ble_eq_true rfl) rfl ?_
  refine sp_slen (by omega) ho hs ?_
  rw [pk_sub h1]
  unfold q_isw at hq
  repeat refine go_step ?_
  refine gif (fun c => ?_) (fun c => ?_)
  · have c1 := (nI_eq (by omega) (by omega)).mp c
    rw [decide_eq_true c1, Bool.true_and] at hq
    repeat refine go_step ?_
    refine gjp ?_
    exact loop len 0 (by omega) c1 hq
  · rw [decide_eq_false (fun q => c (by rw [q])), Bool.false_and] at hq
    repeat refine go_step ?_
    exact gjp hq
/-- the class of a kind, as the class has it: what is no kind is a number's -/
def q_cls (k : Nat) : Nat := if k = 10 then 1 else if k = 2 then 3 else if k = 3 then 4 else if k = 4 then 5 else if k = 8 then 6 else 2
theorem sp_classOf {E : mmE} {d k : Nat} {h : mmH} {Q : Option Value → mmH → Prop} (hk : k < 256) (hq : Q (some (.int (nI (q_cls k)))) h) : mm_Go E d 36 (mm_blk 36 0) [.int (nI k)] [] h Q := by
  have all : ∀ k, k < 256 → mm_sw 6 2 [2, 3, 4, 6, 6, 6, 5, 6, 1] (nI k) = (if k = 10 then 1 else if k = 2 then 2 else if k = 3 then 3 else if k = 4 then 4 else if k = 8 then 5 else 6) := by decide +kernel
  refine go_step ?_
  refine go_step ?_
  refine gjp ?_
  show mm_Go E d 36 (mm_blk 36 (mm_sw 6 2 [2, 3, 4, 6, 6, 6, 5, 6, 1] (nI k))) _ _ _ _
  rw [all k hk]
  unfold q_cls at hq
  by_cases h1 : k = 10
  · rw [if_pos h1] at hq ⊢
    repeat refine go_step ?_
    exact gjp hq
  · rw [if_neg h1] at hq ⊢
    by_cases h2 : k = 2
    · rw [if_pos h2] at hq ⊢
      repeat refine go_step ?_
      exact gjp hq
    · rw [if_neg h2] at hq ⊢
      by_cases h3 : k = 3
      · rw [if_pos h3] at hq ⊢
        repeat refine go_step ?_
        exact gjp hq
      · rw [if_neg h3] at hq ⊢
        by_cases h4 : k = 4
        · rw [if_pos h4] at hq ⊢
          repeat refine go_step ?_
          exact gjp hq
        · rw [if_neg h4] at hq ⊢
          by_cases h5 : k = 8
          · rw [if_pos h5] at hq ⊢
            repeat refine go_step ?_
            exact gjp hq
          · rw [if_neg h5] at hq ⊢
            repeat refine go_step ?_
            exact gjp hq
