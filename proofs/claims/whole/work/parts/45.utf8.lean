def q_ul (b : Nat) : Nat := if b < 224 then 2 else if b < 240 then 3 else 4
def q_uo (n : Nat) : Nat := if n = 2 then 192 else if n = 3 then 224 else 240
def q_ub (n : Nat) : Nat := if n = 2 then 128 else if n = 3 then 2048 else 65536
/-- the bytes behind the first one of a character -/
def q_uc (B : Nat → Nat) (p : Nat) : Nat → Nat → Nat → Option Nat
  | 0, _, v => some v
  | k + 1, i, v => if 128 ≤ B (p + i) ∧ B (p + i) < 192 then q_uc B p k (i + 1) (64 * v + (B (p + i) - 128)) else none
/-- how many bytes the character at p has, 0 when it is not right -/
def q_chr (B : Nat → Nat) (p to : Nat) : Nat := if B p < 128 then 1 else if B p < 192 ∨ 247 < B p ∨ to - p < q_ul (B p) then 0 else match q_uc B p (q_ul (B p) - 1) 1 (B p - q_uo (q_ul (B p))) with
  | none => 0
  | some v => if v < q_ub (q_ul (B p)) ∨ 1114111 < v ∨ (55296 ≤ v ∧ v ≤ 57343) then 0 else q_ul (B p)
def q_utf (B : Nat → Nat) (to : Nat) : Nat → Nat → Bool
  | 0, _ => true
  | k + 1, p => if to ≤ p then true else if q_chr B p to = 0 then false else q_utf B to k (p + q_chr B p to)
theorem q_cont : ∀ c, c < 256 → (nI c &&& 192 = 128 ↔ 128 ≤ c ∧ c < 192) := by decide +kernel
theorem q_c63 : ∀ c, c < 256 → 128 ≤ c ∧ c < 192 → nI c &&& 63 = nI (c - 128) := by decide +kernel
theorem q_u0 : ∀ b, b < 248 → 192 ≤ b → nI b &&& (127 >>> (nI (q_ul b) &&& 31)) = nI (b - q_uo (q_ul b)) := by decide +kernel
theorem nI_or6 {v x : Nat} (hv : v < 2 ^ 20) (hx : x < 64) : (nI v <<< ((6 : Int32) &&& 31)) ||| nI x = nI (64 * v + x) := by
  rw [pk_shlN ((6 : Int32) &&& 31) 6 (by decide) (by omega)]
  apply Int32.toBitVec_inj.mp
  apply BitVec.eq_of_toNat_eq
  rw [Int32.toBitVec_or, BitVec.toNat_or, pk_tn (by omega), pk_tn (by omega), pk_tn (by omega), ← Nat.shiftLeft_eq, ← Nat.shiftLeft_add_eq_or_of_lt (by omega), Nat.shiftLeft_eq]
  omega
theorem q_ul_le (b : Nat) : 2 ≤ q_ul b ∧ q_ul b ≤ 4 := by
  unfold q_ul
  split
  · omega
  · split <;> omega
theorem sp_chr {E : mmE} {d a n p to : Nat} {h : mmH} {Q : Option Value → mmH → Prop} {B : Nat → Nat} (hd : 1 ≤ d) (ha : bRow h a n B) (h1 : p ≤ to) (h2 : to ≤ 2000) (hq : Q (some (.int (nI (q_chr B p to)))) h) : mm_Go E d 10 (mm_blk 10 0) [.ref a, .int (nI p), .int (nI to), mm_un, mm_un, mm_un, mm_un, mm_un] [] h Q := by
  have hB := ha.2.2.1
  have hb := hB p
  have hul := q_ul_le (B p)
  have no : q_chr B p to = 0 → ∀ (v4 v5 v6 v7 : Value), mm_Go E d 10 (mm_blk 10 5) [.ref a, .int (nI p), .int (nI to), .int (nI (B p)), v4, v5, v6, v7] [] h Q := by
    intro h0 v4 v5 v6 v7
    rw [h0] at hq
    repeat refine go_step ?_
    exact gjp hq
  -- the end: least, surrogates
  have fin : ∀ (v : Nat) (v6 v7 : Value), mm_wide v6 = false → mm_wide v7 = false → v < 2 ^ 30 → ¬ B p < 128 → ¬ (B p < 192 ∨ 247 < B p ∨ to - p < q_ul (B p)) → q_uc B p (q_ul (B p) - 1) 1 (B p - q_uo (q_ul (B p))) = some v → mm_Go E d 10 (mm_blk 10 9) [.ref a, .int (nI p), .int (nI to), .int (nI (B p)), .int (nI (q_ul (B p))), .int (nI v), v6, v7] [] h Q := by
    intro v v6 v7 hv6 hv7 hv c1 c2 hu
    have hres : q_chr B p to = if v < q_ub (q_ul (B p)) ∨ 1114111 < v ∨ (55296 ≤ v ∧ v ≤ 57343) then 0 else q_ul (B p) := by
      unfold q_chr
      rw [if_neg c1, if_neg c2, hu]
    rw [hres] at hq
    have last : ∀ sg : Bool, (sg = true ↔ (55296 ≤ v ∧ v ≤ 57343)) → ∀ lst : Nat, lst = q_ub (q_ul (B p)) → lst < 2 ^ 30 → mm_Go E d 10 (mm_blk 10 14) [.ref a, .int (nI p), .int (nI to), .int (nI (B p)), .int (nI (q_ul (B p))), .int (nI v), .int (nI lst), v7] [.int (q_t sg)] h Q := by
      intro sg hsg lst hlst hl30
      have z0 : (v < q_ub (q_ul (B p)) ∨ 1114111 < v ∨ (55296 ≤ v ∧ v ≤ 57343)) → mm_Go E d 10 (mm_blk 10 15) [.ref a, .int (nI p), .int (nI to), .int (nI (B p)), .int (nI (q_ul (B p))), .int (nI v), .int (nI lst), .int (q_t sg)] [] h Q := by
        intro hc
        rw [if_pos hc] at hq
        repeat refine go_step ?_
        refine gjp ?_
        repeat refine go_step ?_
        exact gjp hq
      repeat refine go_step ?_
      refine gif (fun c => z0 (Or.inl (by rw [← hlst]; exact (nI_ltI (by omega) (by omega)).mp c))) (fun c => ?_)
      have c3 : ¬ v < lst := fun q => c ((nI_ltI (by omega) (by omega)).mpr q)
      repeat refine go_step ?_
      refine gif (fun c4 => z0 (Or.inr (Or.inl ((nI_ltI (a := 1114111) (by omega) (by omega)).mp c4)))) (fun c4 => ?_)
      have c5 : ¬ 1114111 < v := fun q => c4 ((nI_ltI (a := 1114111) (by omega) (by omega)).mpr q)
      repeat refine go_step ?_
      refine gif (fun c6 => ?_) (fun c6 => ?_)
      · have c7 : sg = false := q_t_ne.mp c6
        rw [if_neg (by
          rw [← hlst]
          intro q
          rcases q with q | q | q
          · exact c3 q
          · exact c5 q
          · rw [hsg.mpr q] at c7; cases c7)] at hq
        repeat refine go_step ?_
        refine gjp ?_
        repeat refine go_step ?_
        exact gjp hq
      · repeat refine go_step ?_
        refine gjp ?_
        refine z0 (Or.inr (Or.inr (hsg.mp ?_)))
        cases sg
        · exact absurd rfl c6
        · rfl
    have mid : ∀ lst : Nat, lst = q_ub (q_ul (B p)) → lst < 2 ^ 30 → mm_Go E d 10 (mm_blk 10 12) [.ref a, .int (nI p), .int (nI to), .int (nI (B p)), .int (nI (q_ul (B p))), .int (nI v), v6, v7] [.int (nI lst)] h Q := by
      intro lst hlst hl30
      refine go_step ?_
      show mm_Go E d 10 _ (mm_st1 [.ref a, .int (nI p), .int (nI to), .int (nI (B p)), .int (nI (q_ul (B p))), .int (nI v), v6, v7] 6 (.int (nI lst))) [] h Q
      rw [show mm_st1 [.ref a, .int (nI p), .int (nI to), .int (nI (B p)), .int (nI (q_ul (B p))), .int (nI v), v6, v7] 6 (.int (nI lst)) = [.ref a, .int (nI p), .int (nI to), .int (nI (B p)), .int (nI (q_ul (B p))), .int (nI v), .int (nI lst), v7] from rfl]
      have g13 : ¬ (55296 ≤ v ∧ v ≤ 57343) → mm_Go E d 10 (mm_blk 10 13) [.ref a, .int (nI p), .int (nI to), .int (nI (B p)), .int (nI (q_ul (B p))), .int (nI v), .int (nI lst), v7] [] h Q := by
        intro hc
        repeat refine go_step ?_
        refine gjp ?_
        exact last false ⟨(fun q => by cases q), fun q => absurd q hc⟩ lst hlst hl30
      repeat refine go_step ?_
      refine gif (fun c => g13 (by
        have := (nI_ltI (b := 55296) (by omega) (by omega)).mp c
        omega)) (fun c => ?_)
      have c3 : ¬ v < 55296 := fun q => c ((nI_ltI (b := 55296) (by omega) (by omega)).mpr q)
      repeat refine go_step ?_
      refine gif (fun c4 => g13 (by
        have := (nI_ltI (a := 57343) (by omega) (by omega)).mp c4
        omega)) (fun c4 => ?_)
      have c5 : ¬ 57343 < v := fun q => c4 ((nI_ltI (a := 57343) (by omega) (by omega)).mpr q)
      repeat refine go_step ?_
      refine gjp ?_
      exact last true ⟨fun _ => by omega, fun _ => rfl⟩ lst hlst hl30
    have e2 : q_ul (B p) = 2 ∨ q_ul (B p) = 3 ∨ q_ul (B p) = 4 := by omega
    repeat refine go_step ?_
    refine gif (fun c => ?_) (fun c => ?_)
    · have c3 : ¬ q_ul (B p) = 2 := fun q => c (by rw [q]; rfl)
      repeat refine go_step ?_
      refine gif (fun c4 => ?_) (fun c4 => ?_)
      · have c5 : ¬ q_ul (B p) = 3 := fun q => c4 (by rw [q]; rfl)
        repeat refine go_step ?_
        refine gjp ?_
        exact mid 65536 (by unfold q_ub; rw [if_neg c3, if_neg c5]) (by decide)
      · have c5 : q_ul (B p) = 3 := (nI_eq (b := 3) (by omega) (by omega)).mp (Classical.not_not.mp c4)
        repeat refine go_step ?_
        refine gjp ?_
        exact mid 2048 (by unfold q_ub; rw [if_neg c3, if_pos c5]) (by decide)
    · have c3 : q_ul (B p) = 2 := (nI_eq (b := 2) (by omega) (by omega)).mp (Classical.not_not.mp c)
      repeat refine go_step ?_
      refine gjp ?_
      exact mid 128 (by unfold q_ub; rw [if_pos c3]) (by decide)
  -- the bytes behind the first one
  have loop : ∀ (k i v : Nat) (v7 : Value), mm_wide v7 = false → ¬ B p < 128 → ¬ (B p < 192 ∨ 247 < B p ∨ to - p < q_ul (B p)) → k + i = q_ul (B p) → 1 ≤ i → v < 64 ^ i → q_uc B p (q_ul (B p) - 1) 1 (B p - q_uo (q_ul (B p))) = q_uc B p k i v → mm_Go E d 10 (mm_blk 10 7) [.ref a, .int (nI p), .int (nI to), .int (nI (B p)), .int (nI (q_ul (B p))), .int (nI v), .int (nI i), v7] [] h Q := by
    intro k
    induction k with
    | zero =>
      intro i v v7 hv7 c1 c2 hk hi hv hu
      have hv4 : v < 64 ^ 4 := Nat.lt_of_lt_of_le hv (Nat.pow_le_pow_right (by decide) (by omega))
      repeat refine go_step ?_
      refine gif (fun c => ?_) (fun c => absurd (nI_le (by omega) (by omega)) c)
      exact fin v _ v7 rfl hv7 (by omega) c1 c2 hu
    | succ k ih =>
      intro i v v7 hv7 c1 c2 hk hi hv hu
      have hv3 : v < 64 ^ 3 := Nat.lt_of_lt_of_le hv (Nat.pow_le_pow_right (by decide) (by omega))
      have hc := hB (p + i)
      repeat refine go_step ?_
      refine gif (fun c => absurd c (nI_ge (by omega) (by omega))) (fun c => ?_)
      repeat refine go_step ?_
      refine g_call (k := 11) rfl hd (Nat.le_of_ble_eq_true rfl) rfl ?_
      rw [nI_add]
      refine sp_atN ha (by omega) ?_
      refine go_step ?_
      show mm_Go E d 10 _ (mm_st1 [.ref a, .int (nI p), .int (nI to), .int (nI (B p)), .int (nI (q_ul (B p))), .int (nI v), .int (nI i), v7] 7 (.int (nI (B (p + i))))) [] h Q
      rw [show mm_st1 [.ref a, .int (nI p), .int (nI to), .int (nI (B p)), .int (nI (q_ul (B p))), .int (nI v), .int (nI i), v7] 7 (.int (nI (B (p + i)))) = [.ref a, .int (nI p), .int (nI to), .int (nI (B p)), .int (nI (q_ul (B p))), .int (nI v), .int (nI i), .int (nI (B (p + i)))] from rfl]
      rw [show q_uc B p (k + 1) i v = if 128 ≤ B (p + i) ∧ B (p + i) < 192 then q_uc B p k (i + 1) (64 * v + (B (p + i) - 128)) else none from rfl] at hu
      repeat refine go_step ?_
      refine gif (fun c3 => ?_) (fun c3 => ?_)
      · have c4 := (q_cont _ hc).mp c3
        rw [if_pos c4] at hu
        refine go_step ?_
        refine go_step ?_
        refine go_step ?_
        refine go_step ?_
        refine go_step ?_
        refine go_step ?_
        refine go_step ?_
        show mm_Go E d 10 _ _ [.int ((nI v <<< ((6 : Int32) &&& 31)) ||| (nI (B (p + i)) &&& 63))] h Q
        rw [q_c63 _ hc c4, nI_or6 (by omega) (by omega)]
        refine go_step ?_
        refine go_step ?_
        show mm_Go E d 10 _ [.ref a, .int (nI p), .int (nI to), .int (nI (B p)), .int (nI (q_ul (B p))), .int (nI (64 * v + (B (p + i) - 128))), .int (nI i + Int32.ofInt 1), .int (nI (B (p + i)))] [] h Q
        rw [show nI i + Int32.ofInt 1 = nI (i + 1) from nI_1 i]
        repeat refine go_step ?_
        refine gjp ?_
        refine ih (i + 1) _ _ rfl c1 c2 (by omega) (by omega) ?_ hu
        rw [Nat.pow_succ]
        omega
      · have c4 : ¬ (128 ≤ B (p + i) ∧ B (p + i) < 192) := fun q => c3 ((q_cont _ hc).mpr q)
        rw [if_neg c4] at hu
        have h0 : q_chr B p to = 0 := by
          unfold q_chr
          rw [if_neg c1, if_neg c2, hu]
        rw [h0] at hq
        repeat refine go_step ?_
        exact gjp hq
  have four : ¬ B p < 128 → mm_Go E d 10 (mm_blk 10 4) [.ref a, .int (nI p), .int (nI to), .int (nI (B p)), mm_un, mm_un, mm_un, mm_un] [.int (nI (q_ul (B p)))] h Q := by
    intro c1
    have z : (B p < 192 ∨ 247 < B p ∨ to - p < q_ul (B p)) → mm_Go E d 10 (mm_blk 10 5) [.ref a, .int (nI p), .int (nI to), .int (nI (B p)), .int (nI (q_ul (B p))), mm_un, mm_un, mm_un] [] h Q := fun hc => no (by unfold q_chr; rw [if_neg c1, if_pos hc]) _ _ _ _
    repeat refine go_step ?_
    refine gif (fun c => z (Or.inl ((nI_ltI (b := 192) (by omega) (by omega)).mp c))) (fun c => ?_)
    have c2 : ¬ B p < 192 := fun q => c ((nI_ltI (b := 192) (by omega) (by omega)).mpr q)
    repeat refine go_step ?_
    refine gif (fun c3 => z (Or.inr (Or.inl ((nI_ltI (a := 247) (by omega) (by omega)).mp c3)))) (fun c3 => ?_)
    have c4 : ¬ 247 < B p := fun q => c3 ((nI_ltI (a := 247) (by omega) (by omega)).mpr q)
    repeat refine go_step ?_
    refine gif (fun c5 => ?_) (fun c5 => ?_)
    · rw [pk_sub h1] at c5
      have c6 := (nI_leI (by omega) (by omega)).mp c5
      have c7 : ¬ (B p < 192 ∨ 247 < B p ∨ to - p < q_ul (B p)) := by omega
      have hu0 : B p - q_uo (q_ul (B p)) < 64 ^ 1 := by
        unfold q_uo q_ul
        by_cases t1 : B p < 224
        · rw [if_pos t1, if_pos rfl]
          omega
        · rw [if_neg t1]
          by_cases t2 : B p < 240
          · rw [if_pos t2, if_neg (by decide), if_pos rfl]
            omega
          · rw [if_neg t2, if_neg (by decide), if_neg (by decide)]
            omega
      refine go_step ?_
      refine go_step ?_
      refine go_step ?_
      refine go_step ?_
      refine go_step ?_
      show mm_Go E d 10 _ _ [.int (nI (B p) &&& (127 >>> (nI (q_ul (B p)) &&& 31)))] h Q
      rw [q_u0 _ (by omega) (by omega)]
      repeat refine go_step ?_
      refine gjp ?_
      exact loop (q_ul (B p) - 1) 1 _ _ rfl c1 c7 (by omega) (by omega) hu0 rfl
    · rw [pk_sub h1] at c5
      have c6 : ¬ q_ul (B p) ≤ to - p := fun q => c5 ((nI_leI (by omega) (by omega)).mpr q)
      repeat refine go_step ?_
      refine gjp ?_
      exact z (by omega)
  repeat refine go_step ?_
  refine g_call (k := 11) rfl hd (Nat.le_of_ble_eq_true rfl) rfl ?_
  refine sp_atN ha (by omega) ?_
  repeat refine go_step ?_
  refine gif (fun c => ?_) (fun c => ?_)
  · have c1 : 128 ≤ B p := (nI_leI (a := 128) (by omega) (by omega)).mp c
    repeat refine go_step ?_
    refine gif (fun c2 => ?_) (fun c2 => ?_)
    · have c3 : 224 ≤ B p := (nI_leI (a := 224) (by omega) (by omega)).mp c2
      repeat refine go_step ?_
      refine gif (fun c4 => ?_) (fun c4 => ?_)
      · have c5 : 240 ≤ B p := (nI_leI (a := 240) (by omega) (by omega)).mp c4
        have e4 : q_ul (B p) = 4 := by unfold q_ul; rw [if_neg (by omega), if_neg (by omega)]
        repeat refine go_step ?_
        refine gjp ?_
        have := four (by omega)
        rw [e4] at this
        exact this
      · have c5 : ¬ 240 ≤ B p := fun q => c4 ((nI_leI (a := 240) (by omega) (by omega)).mpr q)
        have e4 : q_ul (B p) = 3 := by unfold q_ul; rw [if_neg (by omega), if_pos (by omega)]
        repeat refine go_step ?_
        refine gjp ?_
        have := four (by omega)
        rw [e4] at this
        exact this
    · have c3 : ¬ 224 ≤ B p := fun q => c2 ((nI_leI (a := 224) (by omega) (by omega)).mpr q)
      have e4 : q_ul (B p) = 2 := by unfold q_ul; rw [if_pos (by omega)]
      repeat refine go_step ?_
      refine gjp ?_
      have := four (by omega)
      rw [e4] at this
      exact this
  · have c1 : ¬ 128 ≤ B p := fun q => c ((nI_leI (a := 128) (by omega) (by omega)).mpr q)
    have h0 : q_chr B p to = 1 := by unfold q_chr; rw [if_pos (by omega)]
    rw [h0] at hq
    repeat refine go_step ?_
    exact gjp hq
theorem q_chr_le (B : Nat → Nat) (p to : Nat) : q_chr B p to ≤ 4 := by
  unfold q_chr
  have := q_ul_le (B p)
  split
  · omega
  · split
    · omega
    · split
      · omega
      · split <;> omega
theorem q_chr_in {B : Nat → Nat} {p to : Nat} (h : p < to) : p + q_chr B p to ≤ to := by
  unfold q_chr
  split
  · omega
  · split
    · omega
    · rename_i hc
      split
      · omega
      · split <;> omega
theorem sp_utf {E : mmE} {d a n fr to : Nat} {h : mmH} {Q : Option Value → mmH → Prop} {B : Nat → Nat} (hd : 2 ≤ d) (ha : bRow h a n B) (h1 : fr ≤ to) (h2 : to ≤ 2000) (hq : Q (some (.int (q_t (q_utf B to (to - fr) fr)))) h) : mm_Go E d 9 (mm_blk 9 0) [.ref a, .int (nI fr), .int (nI to), mm_un, mm_un, mm_un] [] h Q := by
  have loop : ∀ (k ct p : Nat) (v5 : Value), mm_wide v5 = false → k + ct = to → ct ≤ p → p ≤ to → Q (some (.int (q_t (q_utf B to k p)))) h → mm_Go E d 9 (mm_blk 9 1) [.ref a, .int (nI fr), .int (nI to), .int (nI p), .int (nI ct), v5] [] h Q := by
    intro k
    induction k with
    | zero =>
      intro ct p v5 hv hk hcp hp hq
      repeat refine go_step ?_
      refine gif (fun c => ?_) (fun c => absurd (nI_le (by omega) (by omega)) c)
      repeat refine go_step ?_
      exact gjp hq
    | succ k ih =>
      intro ct p v5 hv hk hcp hp hq
      unfold q_utf at hq
      repeat refine go_step ?_
      refine gif (fun c => absurd c (nI_ge (by omega) (by omega))) (fun c => ?_)
      repeat refine go_step ?_
      refine gif (fun c1 => ?_) (fun c1 => ?_)
      · rw [if_pos ((nI_leI (by omega) (by omega)).mp c1)] at hq
        repeat refine go_step ?_
        exact gjp hq
      · have c2 : ¬ to ≤ p := fun q => c1 ((nI_leI (by omega) (by omega)).mpr q)
        rw [if_neg c2] at hq
        repeat refine go_step ?_
        refine g_call (k := 10) rfl (by omega) (Nat.le_of_ble_eq_true rfl) rfl ?_
        refine sp_chr (by omega) ha (by omega) h2 ?_
        have hle := q_chr_le B p to
        have hin := q_chr_in (B := B) (p := p) (to := to) (by omega)
        repeat refine go_step ?_
        refine gif (fun c3 => ?_) (fun c3 => ?_)
        · have c4 : ¬ q_chr B p to = 0 := fun q => c3 (by rw [q]; rfl)
          rw [if_neg c4] at hq
          repeat refine go_step ?_
          refine gjp ?_
          rw [nI_add, show nI ct + Int32.ofInt 1 = nI (ct + 1) from nI_1 ct]
          exact ih (ct + 1) (p + q_chr B p to) _ rfl (by omega) (by omega) hin hq
        · have c4 : q_chr B p to = 0 := (nI_eq (b := 0) (by omega) (by omega)).mp (Classical.not_not.mp c3)
          rw [if_pos c4] at hq
          repeat refine go_step ?_
          exact gjp hq
  repeat refine go_step ?_
  refine gjp ?_
  exact loop (to - fr) fr fr _ rfl (by omega) (by omega) h1 hq
/-- a path as an index has it -/
def q_path (B : Nat → Nat) (n : Nat) : Bool := q_utf B n n 0 && q_steps B true n 0 true 0
theorem sp_isRight {E : mmE} {d a n : Nat} {h : mmH} {Q : Option Value → mmH → Prop} {B : Nat → Nat} (hd : 3 ≤ d) (ha : bRow h a n B) (hq : Q (some (.int (q_t (q_path B n)))) h) : mm_Go E d 8 (mm_blk 8 0) [.ref a] [] h Q := by
  have hn := ha.1
  unfold q_path at hq
  repeat refine go_step ?_
  refine g_alen (row_len ha) ?_
  repeat refine go_step ?_
  refine g_call (k := 9) rfl (by omega) (Nat.le_of_ble_eq_true rfl) rfl ?_
  refine sp_utf (fr := 0) (to := n) (by omega) ha (by omega) hn ?_
  rw [Nat.sub_zero]
  repeat refine go_step ?_
  refine gif (fun c => ?_) (fun c => ?_)
  · rw [q_t_ne.mp c, Bool.false_and] at hq
    repeat refine go_step ?_
    refine gjp ?_
    repeat refine go_step ?_
    exact gjp hq
  · have c1 : q_utf B n n 0 = true := by
      cases hu : q_utf B n n 0
      · rw [hu] at c; exact absurd rfl c
      · rfl
    rw [c1, Bool.true_and] at hq
    repeat refine go_step ?_
    refine g_alen (row_len ha) ?_
    repeat refine go_step ?_
    refine g_call (k := 12) rfl (by omega) (Nat.le_of_ble_eq_true rfl) rfl ?_
    refine sp_hasRightSteps (fr := 0) (to := n) (dol := true) (by omega) ha (by omega) hn ?_
    rw [Nat.sub_zero]
    repeat refine go_step ?_
    refine gif (fun c2 => ?_) (fun c2 => ?_)
    · rw [q_t_ne.mp c2] at hq
      repeat refine go_step ?_
      refine gjp ?_
      repeat refine go_step ?_
      exact gjp hq
    · have c3 : q_steps B true n 0 true 0 = true := by
        cases hu : q_steps B true n 0 true 0
        · rw [hu] at c2; exact absurd rfl c2
        · rfl
      rw [c3] at hq
      repeat refine go_step ?_
      refine gjp ?_
      repeat refine go_step ?_
      exact gjp hq
