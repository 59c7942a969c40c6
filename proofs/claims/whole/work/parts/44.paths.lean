/-- the decimal digits of a number, from their end on -/
def q_dec (B : Nat → Nat) (fr : Nat) : Nat → Nat → Nat → Bool
  | 0, _, _ => false
  | k + 1, pl, rest => if pl ≤ fr then false else if B (pl - 1) = 48 + rest % 10 then (if 0 < rest / 10 then q_dec B fr k (pl - 1) (rest / 10) else decide (pl - 1 = fr)) else false
theorem sp_isDecimal {E : mmE} {d a n fr to num : Nat} {h : mmH} {Q : Option Value → mmH → Prop} {B : Nat → Nat} (hd : 1 ≤ d) (ha : bRow h a n B) (h0 : 1 ≤ fr) (h1 : fr ≤ to) (h2 : to ≤ 2000) (hn : num < 2 ^ 30) (hq : Q (some (.int (q_t (q_dec B fr (to + 1) to num)))) h) : mm_Go E d 52 (mm_blk 52 0) [.ref a, .int (nI fr), .int (nI to), .int (nI num), mm_un, mm_un] [] h Q := by
  have hB := ha.2.2.1
  have loop : ∀ (k pl rest : Nat), pl < k → fr ≤ pl → pl ≤ to → rest < 2 ^ 30 → Q (some (.int (q_t (q_dec B fr k pl rest)))) h → mm_Go E d 52 (mm_blk 52 1) [.ref a, .int (nI fr), .int (nI to), .int (nI num), .int (nI rest), .int (nI pl)] [] h Q := by
    intro k
    induction k with
    | zero => intro pl rest hk; omega
    | succ k ih =>
      intro pl rest hk hfp hpt hr hq
      unfold q_dec at hq
      refine go_step ?_
      show mm_Go E d 52 _ [.ref a, .int (nI fr), .int (nI to), .int (nI num), .int (nI rest), .int (nI pl + Int32.ofInt (-1))] _ h Q
      rw [show nI pl + Int32.ofInt (-1) = nI (pl - 1) from sb_m1 (by omega)]
      have hB1 := hB (pl - 1)
      repeat refine go_step ?_
      refine gif (fun c => ?_) (fun c => ?_)
      · have c1 := (nI_ltI (by omega) (by omega)).mp c
        rw [if_pos (by omega)] at hq
        repeat refine go_step ?_
        exact gjp hq
      · have c1 : ¬ pl - 1 < fr := fun q => c ((nI_ltI (by omega) (by omega)).mpr q)
        rw [if_neg (by omega)] at hq
        repeat refine go_step ?_
        refine g_call (k := 11) rfl hd (Nat.le_of_ble_eq_true rfl) rfl ?_
        refine sp_atN ha (by omega) ?_
        refine go_step ?_
        refine go_step ?_
        refine go_step ?_
        refine go_step ?_
        refine go_step ?_
        show mm_Go E d 52 _ _ (.int (nI 48 + (nI rest - nI rest / nI 10 * nI 10)) :: _) h Q
        rw [pk_rem (by omega) (by decide) (by decide), nI_add]
        repeat refine go_step ?_
        have hm : rest % 10 < 10 := Nat.mod_lt _ (by decide)
        refine gif (fun c2 => ?_) (fun c2 => ?_)
        · rw [if_pos ((nI_eq (by omega) (by omega)).mp c2)] at hq
          refine go_step ?_
          refine go_step ?_
          refine go_step ?_
          refine go_step ?_
          show mm_Go E d 52 _ [.ref a, .int (nI fr), .int (nI to), .int (nI num), .int (nI rest / nI 10), .int (nI (pl - 1))] _ h Q
          rw [pk_div (by omega) (by decide) (by decide)]
          have hdv : rest / 10 ≤ rest := Nat.div_le_self _ _
          repeat refine go_step ?_
          refine gif (fun c3 => ?_) (fun c3 => ?_)
          · have c4 : 0 < rest / 10 := (nI_ltI (a := 0) (by omega) (by omega)).mp c3
            rw [if_pos c4] at hq
            exact ih (pl - 1) (rest / 10) (by omega) (by omega) (by omega) (by omega) hq
          · have c4 : ¬ 0 < rest / 10 := fun q => c3 ((nI_ltI (a := 0) (by omega) (by omega)).mpr q)
            rw [if_neg c4] at hq
            repeat refine go_step ?_
            refine gif (fun c5 => ?_) (fun c5 => ?_)
            · rw [decide_eq_false (fun q => c5 (by rw [q]))] at hq
              repeat refine go_step ?_
              refine gjp ?_
              repeat refine go_step ?_
              exact gjp hq
            · rw [decide_eq_true ((nI_eq (by omega) (by omega)).mp (Classical.not_not.mp c5))] at hq
              repeat refine go_step ?_
              refine gjp ?_
              repeat refine go_step ?_
              exact gjp hq
        · rw [if_neg (fun q => c2 (by rw [q]))] at hq
          repeat refine go_step ?_
          refine gjp ?_
          repeat refine go_step ?_
          exact gjp hq
  repeat refine go_step ?_
  refine gjp ?_
  exact loop (to + 1) to num (by omega) h1 (by omega) hn hq
/-- the steps of a path, as the class reads them: what is left to read, whether a step begins here, how many there were -/
def q_steps (B : Nat → Nat) (dol : Bool) : Nat → Nat → Bool → Nat → Bool
  | 0, _, opens, st => !opens && decide (st ≤ 8)
  | k + 1, i, opens, st => if B i = 0 ∨ (opens = true ∧ (B i = 46 ∨ (B i = 36 ∧ dol = false))) then false else q_steps B dol k (i + 1) (decide (B i = 46)) (if opens then st + 1 else st)
theorem q_t_ne {b : Bool} : q_t b = 0 ↔ b = false := by cases b <;> decide
theorem sp_hasRightSteps {E : mmE} {d a n fr to : Nat} {dol : Bool} {h : mmH} {Q : Option Value → mmH → Prop} {B : Nat → Nat} (hd : 1 ≤ d) (ha : bRow h a n B) (h1 : fr ≤ to) (h2 : to ≤ 2000) (hq : Q (some (.int (q_t (q_steps B dol (to - fr) fr true 0)))) h) : mm_Go E d 12 (mm_blk 12 0) [.ref a, .int (nI fr), .int (nI to), .int (q_t dol), mm_un, mm_un, mm_un, mm_un] [] h Q := by
  have hB := ha.2.2.1
  have loop : ∀ (k i st : Nat) (opens : Bool) (v : Value), mm_wide v = false → k + i = to → fr ≤ i → st ≤ i → Q (some (.int (q_t (q_steps B dol k i opens st)))) h → mm_Go E d 12 (mm_blk 12 1) [.ref a, .int (nI fr), .int (nI to), .int (q_t dol), .int (nI st), .int (q_t opens), .int (nI i), v] [] h Q := by
    intro k
    induction k with
    | zero =>
      intro i st opens v hv hk hi hst hq
      unfold q_steps at hq
      repeat refine go_step ?_
      refine gif (fun c => ?_) (fun c => absurd (nI_le (by omega) (by omega)) c)
      repeat refine go_step ?_
      refine gif (fun c => ?_) (fun c => ?_)
      · have c1 : opens = true := by
          cases opens
          · exact absurd rfl c
          · rfl
        rw [c1] at hq
        repeat refine go_step ?_
        refine gjp ?_
        repeat refine go_step ?_
        exact gjp hq
      · have c1 : opens = false := q_t_ne.mp (Classical.not_not.mp c)
        rw [c1, Bool.not_false, Bool.true_and] at hq
        repeat refine go_step ?_
        refine gif (fun c2 => ?_) (fun c2 => ?_)
        · rw [decide_eq_false (by
            have := (nI_ltI (a := 8) (by omega) (by omega)).mp c2
            omega)] at hq
          repeat refine go_step ?_
          refine gjp ?_
          repeat refine go_step ?_
          exact gjp hq
        · rw [decide_eq_true (by
            have : ¬ 8 < st := fun q => c2 ((nI_ltI (a := 8) (by omega) (by omega)).mpr q)
            omega)] at hq
          repeat refine go_step ?_
          refine gjp ?_
          repeat refine go_step ?_
          exact gjp hq
    | succ k ih =>
      intro i st opens v hv hk hi hst hq
      have hBi := hB i
      unfold q_steps at hq
      repeat refine go_step ?_
      refine gif (fun c => absurd c (nI_ge (by omega) (by omega))) (fun c => ?_)
      repeat refine go_step ?_
      refine g_call (k := 11) rfl hd (Nat.le_of_ble_eq_true rfl) rfl ?_
      refine sp_atN ha (by omega) ?_
      have bad : (B i = 0 ∨ (opens = true ∧ (B i = 46 ∨ (B i = 36 ∧ dol = false)))) → mm_Go E d 12 (mm_blk 12 2) [.ref a, .int (nI fr), .int (nI to), .int (q_t dol), .int (nI st), .int (q_t opens), .int (nI i), .int (nI (B i))] [] h Q := by
        intro hc
        rw [if_pos hc] at hq
        repeat refine go_step ?_
        exact gjp hq
      have good : ¬ (B i = 0 ∨ (opens = true ∧ (B i = 46 ∨ (B i = 36 ∧ dol = false)))) → mm_Go E d 12 (mm_blk 12 3) [.ref a, .int (nI fr), .int (nI to), .int (q_t dol), .int (nI st), .int (q_t opens), .int (nI i), .int (nI (B i))] [] h Q := by
        intro hc
        rw [if_neg hc] at hq
        have tail : ∀ st' : Nat, st' ≤ i + 1 → Q (some (.int (q_t (q_steps B dol k (i + 1) (decide (B i = 46)) st')))) h → mm_Go E d 12 (mm_blk 12 4) [.ref a, .int (nI fr), .int (nI to), .int (q_t dol), .int (nI st'), .int (q_t opens), .int (nI i), .int (nI (B i))] [] h Q := by
          intro st' hst' hq
          repeat refine go_step ?_
          refine gif (fun c2 => ?_) (fun c2 => ?_)
          · have c3 : ¬ B i = 46 := fun q => c2 (by rw [q]; rfl)
            rw [decide_eq_false c3] at hq
            repeat refine go_step ?_
            refine gjp ?_
            repeat refine go_step ?_
            refine gjp ?_
            rw [show nI i + Int32.ofInt 1 = nI (i + 1) from nI_1 i]
            exact ih (i + 1) st' false _ rfl (by omega) (by omega) hst' hq
          · have c3 : B i = 46 := (nI_eq (b := 46) (by omega) (by omega)).mp (Classical.not_not.mp c2)
            rw [decide_eq_true c3] at hq
            repeat refine go_step ?_
            refine gjp ?_
            repeat refine go_step ?_
            refine gjp ?_
            rw [show nI i + Int32.ofInt 1 = nI (i + 1) from nI_1 i]
            exact ih (i + 1) st' true _ rfl (by omega) (by omega) hst' hq
        cases opens with
        | true =>
          repeat refine go_step ?_
          refine gff rfl ?_
          refine go_step ?_
          show mm_Go E d 12 _ [.ref a, .int (nI fr), .int (nI to), .int (q_t dol), .int (nI st + Int32.ofInt 1), .int (q_t true), .int (nI i), .int (nI (B i))] _ h Q
          rw [show nI st + Int32.ofInt 1 = nI (st + 1) from nI_1 st]
          repeat refine go_step ?_
          refine gjp ?_
          exact tail (st + 1) (by omega) hq
        | false =>
          repeat refine go_step ?_
          refine gtt rfl ?_
          exact tail st (by omega) hq
      repeat refine go_step ?_
      refine gif (fun c2 => bad (Or.inl ((nI_eq (b := 0) (by omega) (by omega)).mp c2))) (fun c2 => ?_)
      have c0 : ¬ B i = 0 := fun q => c2 (by rw [q]; rfl)
      repeat refine go_step ?_
      refine gif (fun c3 => good (fun q => by
        rcases q with q | q
        · exact c0 q
        · rw [q_t_ne.mp c3] at q
          cases q.1)) (fun c3 => ?_)
      have c4 : opens = true := by
        cases opens
        · exact absurd rfl c3
        · rfl
      repeat refine go_step ?_
      refine gif (fun c5 => bad (Or.inr ⟨c4, Or.inl ((nI_eq (b := 46) (by omega) (by omega)).mp c5)⟩)) (fun c5 => ?_)
      have c6 : ¬ B i = 46 := fun q => c5 (by rw [q]; rfl)
      repeat refine go_step ?_
      refine gif (fun c7 => good (fun q => by
        rcases q with q | ⟨-, q | q⟩
        · exact c0 q
        · exact c6 q
        · exact c7 (by rw [q.1]; rfl))) (fun c7 => ?_)
      have c8 : B i = 36 := (nI_eq (b := 36) (by omega) (by omega)).mp (Classical.not_not.mp c7)
      repeat refine go_step ?_
      refine gif (fun c9 => good (fun q => by
        rcases q with q | ⟨-, q | q⟩
        · exact c0 q
        · exact c6 q
        · exact c9 (by rw [q.2]; rfl))) (fun c9 => ?_)
      repeat refine go_step ?_
      refine gjp ?_
      exact bad (Or.inr ⟨c4, Or.inr ⟨c8, q_t_ne.mp (Classical.not_not.mp c9)⟩⟩)
  repeat refine go_step ?_
  refine gjp ?_
  exact loop (to - fr) fr 0 true _ rfl (by omega) (by omega) (by omega) hq

