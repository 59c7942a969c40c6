section GO
variable {E : mmE} {d m idx : Nat} {is : List mmI} {L S r : List Value} {h : mmH} {Q : Option Value → mmH → Prop} {ex : List Nat} {ins : Instr}
theorem g_call {k : Nat} {as rr : List Value} (hs : mm_step E L S h ins ex = mm_cl k as rr) (hd : 1 ≤ d) (hl : (mm_lay as).length ≤ mm_maxL k) (hi : (mm_iss.getD k true || mm_hr as) = true) (hg : mm_Go E (d - 1) k (mm_blk k 0) (mm_ent (mm_maxL k) as) [] h (fun v h' => mm_Go E d m is L (v.toList ++ rr) h' Q)) : mm_goO E d m is L h Q (mm_step E L S h ins ex) := by
  rw [hs]
  exact ⟨d - 1, by omega, ⟨hl, hi⟩, hg⟩
end GO
def bt_at (n : Nat) (f : Nat → Int32) (i : Int32) : Int32 := if i < 0 ∨ Int32.ofNat n ≤ i then 0 else f i.toNatClampNeg &&& 255
theorem sp_at {E : mmE} {d a n : Nat} {h : mmH} {Q : Option Value → mmH → Prop} {f : Nat → Int32} {i : Int32} (ha : h.2.2 a = some (.inl (0, n, .inl f))) (hn : n < 2 ^ 31) (hq : Q (some (.int (bt_at n f i))) h) : mm_Go E d 11 (mm_blk 11 0) [.ref a, .int i] [] h Q := by
  have hal : mm_len E h a = some n := by unfold mm_len; rw [ha]
  have haI : mm_aI E h a = some (0, n, f) := by unfold mm_aI; rw [ha]
  have h1 : (i < 0 ∨ Int32.ofNat n ≤ i) → mm_Go E d 11 (mm_blk 11 1) [.ref a, .int i] [] h Q := by
    intro hc
    repeat refine go_step ?_
    refine gjp ?_
    repeat refine go_step ?_
    refine gjp ?_
    rw [bt_at, if_pos hc] at hq
    exact hq
  repeat refine go_step ?_
  refine gif (fun c1 => h1 (Or.inl c1)) (fun c1 => ?_)
  repeat refine go_step ?_
  refine g_alen hal ?_
  repeat refine go_step ?_
  refine gif (fun c2 => h1 (Or.inr c2)) (fun c2 => ?_)
  repeat refine go_step ?_
  obtain ⟨j, hj, rfl⟩ := (pk_ix i hn).resolve_left c1 |>.resolve_left c2
  refine g_bald haI (Or.inl rfl) (decide_eq_true (vp_in_nI hj hn)) ?_
  repeat refine go_step ?_
  refine gjp ?_
  repeat refine go_step ?_
  refine gjp ?_
  rw [bt_at, if_neg (fun q => q.elim c1 c2)] at hq
  exact hq
/-- a row of n bytes at a, B its bytes without sign, 0 beyond -/
def bRow (h : mmH) (a n : Nat) (B : Nat → Nat) : Prop := n ≤ 2000 ∧ (∃ f, h.2.2 a = some (.inl (0, n, .inl f)) ∧ ∀ j, j < n → f j &&& 255 = nI (B j)) ∧ (∀ j, B j < 256) ∧ ∀ j, n ≤ j → B j = 0
theorem sp_atN {E : mmE} {d a n p : Nat} {h : mmH} {Q : Option Value → mmH → Prop} {B : Nat → Nat} (hb : bRow h a n B) (hp : p < 2 ^ 31) (hq : Q (some (.int (nI (B p)))) h) : mm_Go E d 11 (mm_blk 11 0) [.ref a, .int (nI p)] [] h Q := by
  obtain ⟨hn, ⟨f, ha, hf⟩, h1, h2⟩ := hb
  refine sp_at ha (by omega) ?_
  unfold bt_at
  by_cases hlt : p < n
  · rw [if_neg (fun q => q.elim (nI_pos hp) (nI_ge hlt (by omega))), nI_clamp hp, hf p hlt]
    exact hq
  · rw [if_pos (Or.inr (show Int32.ofNat n ≤ nI p from nI_le (by omega) hp))]
    rw [h2 p (by omega)] at hq
    exact hq
theorem sp_min {E : mmE} {d : Nat} {h : mmH} {Q : Option Value → mmH → Prop} {x y : Nat} (hx : x < 2 ^ 31) (hy : y < 2 ^ 31) (hq : Q (some (.int (nI (min x y)))) h) : mm_Go E d 7 (mm_blk 7 0) [.int (nI x), .int (nI y)] [] h Q := by
  repeat refine go_step ?_
  refine gif (fun c => ?_) (fun c => ?_)
  · repeat refine go_step ?_
    refine gjp ?_
    repeat refine go_step ?_
    refine gjp ?_
    have := (nI_ltI hy hx).mp c
    rw [Nat.min_eq_right (by omega)] at hq
    exact hq
  · repeat refine go_step ?_
    refine gjp ?_
    repeat refine go_step ?_
    refine gjp ?_
    have : ¬ y < x := fun q => c ((nI_ltI hy hx).mpr q)
    rw [Nat.min_eq_left (by omega)] at hq
    exact hq
/-- -1, 0, 1 -/
def q_c3 (x y : Nat) : Int32 := if x < y then -1 else if x = y then 0 else 1
theorem sp_icmp {E : mmE} {d : Nat} {h : mmH} {Q : Option Value → mmH → Prop} {x y : Nat} (hx : x < 2 ^ 31) (hy : y < 2 ^ 31) (hq : Q (some (.int (q_c3 x y))) h) : mm_Go E d 15 (mm_blk 15 0) [.int (nI x), .int (nI y)] [] h Q := by
  unfold q_c3 at hq
  repeat refine go_step ?_
  refine gif (fun c => ?_) (fun c => ?_)
  · have c1 := (nI_leI hy hx).mp c
    rw [if_neg (by omega)] at hq
    repeat refine go_step ?_
    refine gif (fun c2 => ?_) (fun c2 => ?_)
    · rw [if_neg (fun q => c2 (by rw [q]))] at hq
      repeat refine go_step ?_
      refine gjp ?_
      repeat refine go_step ?_
      refine gjp ?_
      exact hq
    · have c3 : nI x = nI y := Classical.not_not.mp c2
      rw [if_pos ((nI_eq hx hy).mp c3)] at hq
      repeat refine go_step ?_
      refine gjp ?_
      repeat refine go_step ?_
      refine gjp ?_
      exact hq
  · rw [if_pos (by
      have : ¬ y ≤ x := fun q => c ((nI_leI hy hx).mpr q)
      omega)] at hq
    repeat refine go_step ?_
    refine gjp ?_
    repeat refine go_step ?_
    refine gjp ?_
    exact hq
/-- bytes by bytes without sign; what ends first is less -/
def q_by (A B : Nat → Nat) (n m : Nat) : Nat → Nat → Int32
  | 0, _ => q_c3 n m
  | k + 1, i => if A i = B i then q_by A B n m k (i + 1) else q_c3 (A i) (B i)
def q_bytes (A : Nat → Nat) (n : Nat) (B : Nat → Nat) (m : Nat) : Int32 := q_by A B n m (min n m) 0
theorem q_c3_0 {x y : Nat} : q_c3 x y = 0 ↔ x = y := by
  unfold q_c3
  constructor
  · intro h
    split at h
    · exact absurd h (by decide)
    · split at h
      · assumption
      · exact absurd h (by decide)
  · intro h
    rw [if_neg (by omega), if_pos h]
theorem sp_compare {E : mmE} {d a b n m aF aT bF bT : Nat} {h : mmH} {Q : Option Value → mmH → Prop} {A B : Nat → Nat} (hd : 1 ≤ d) (ha : bRow h a n A) (hb : bRow h b m B) (h1 : aF ≤ aT) (h2 : aT ≤ 2000) (h3 : bF ≤ bT) (h4 : bT ≤ 2000) (hq : Q (some (.int (q_bytes (fun i => A (aF + i)) (aT - aF) (fun i => B (bF + i)) (bT - bF)))) h) :
    mm_Go E d 14 (mm_blk 14 0) [.ref a, .int (nI aF), .int (nI aT), .ref b, .int (nI bF), .int (nI bT), mm_un, mm_un, mm_un] [] h Q := by
  have hA := ha.2.2.1
  have hB := hb.2.2.1
  have loop : ∀ (k i : Nat) (v8 : Value), mm_wide v8 = false → k + i = min (aT - aF) (bT - bF) → Q (some (.int (q_by (fun i => A (aF + i)) (fun i => B (bF + i)) (aT - aF) (bT - bF) k i))) h → mm_Go E d 14 (mm_blk 14 1) [.ref a, .int (nI aF), .int (nI aT), .ref b, .int (nI bF), .int (nI bT), .int (nI (min (aT - aF) (bT - bF))), .int (nI i), v8] [] h Q := by
    intro k
    induction k with
    | zero =>
      intro i v8 hv hk hq
      repeat refine go_step ?_
      refine gif (fun c => ?_) (fun c => absurd (nI_le (by omega) (by omega)) c)
      repeat refine go_step ?_
      refine g_call (k := 15) rfl hd (Nat.le_of_ble_eq_true rfl) rfl ?_
      rw [pk_sub h1, pk_sub h3]
      refine sp_icmp (by omega) (by omega) ?_
      repeat refine go_step ?_
      exact gjp hq
    | succ k ih =>
      intro i v8 hv hk hq
      repeat refine go_step ?_
      refine gif (fun c => absurd c (nI_ge (by omega) (by omega))) (fun c => ?_)
      repeat refine go_step ?_
      refine g_call (k := 11) rfl hd (Nat.le_of_ble_eq_true rfl) rfl ?_
      rw [nI_add]
      refine sp_atN ha (by omega) ?_
      repeat refine go_step ?_
      refine g_call (k := 11) rfl hd (Nat.le_of_ble_eq_true rfl) rfl ?_
      rw [nI_add]
      refine sp_atN hb (by omega) ?_
      repeat refine go_step ?_
      refine g_call (k := 15) rfl hd (Nat.le_of_ble_eq_true rfl) rfl ?_
      have e1 := hA (aF + i)
      have e2 := hB (bF + i)
      refine sp_icmp (by omega) (by omega) ?_
      unfold q_by at hq
      repeat refine go_step ?_
      refine gif (fun c2 => ?_) (fun c2 => ?_)
      · have c3 := q_c3_0.mp c2
        rw [if_pos c3] at hq
        repeat refine go_step ?_
        refine gjp ?_
        rw [show nI i + Int32.ofInt 1 = nI (i + 1) from nI_1 i]
        exact ih (i + 1) _ rfl (by omega) hq
      · rw [if_neg (fun q => c2 (q_c3_0.mpr q))] at hq
        repeat refine go_step ?_
        exact gjp hq
  repeat refine go_step ?_
  refine g_call (k := 7) rfl hd (Nat.le_of_ble_eq_true rfl) rfl ?_
  rw [pk_sub h1, pk_sub h3]
  refine sp_min (by omega) (by omega) ?_
  repeat refine go_step ?_
  refine gjp ?_
  exact loop _ 0 _ rfl (by omega) hq
