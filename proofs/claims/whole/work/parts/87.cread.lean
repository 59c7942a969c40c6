/-! from kit/laws/BITS.to-paste -/
theorem u_tn {n : Nat} (h : n < 2 ^ 64) : (UInt64.ofNat n).toNat = n := Nat.mod_eq_of_lt h
theorem g_or {k p a b : Nat} (hp : 2 ^ k = p) (ha : a < p) (h : b * p + a < 2 ^ 64) : lN (b * p) ||| lN a = lN (b * p + a) := by
  subst hp
  have h1 : b * 2 ^ k ||| a = b * 2 ^ k + a := by rw [← Nat.shiftLeft_eq, Nat.shiftLeft_add_eq_or_of_lt ha]
  have h3 : UInt64.ofNat (b * 2 ^ k) ||| UInt64.ofNat a = UInt64.ofNat (b * 2 ^ k + a) := UInt64.toNat_inj.mp (by rw [UInt64.toNat_or, u_tn (by omega), u_tn (by omega), u_tn h, h1])
  have h2 := congrArg UInt64.toInt64 h3
  exact h2
theorem g_or' {k p a b : Nat} (hp : 2 ^ k = p) (ha : a < p) (h : a + b * p < 2 ^ 64) : lN a ||| lN (b * p) = lN (a + b * p) := by
  rw [Int64.or_comm, g_or hp ha (by omega), Nat.add_comm]
/-! THE CLASS: the reader's numbers, texts, names -/
def rdC (la row A : Nat) (w : Bool) : mmC := .inr (2, [.ref la, .ref row, .int (nI A), .int (q_t w)])
/-- k bytes, the lowest first -/
def q_le (B : Nat → Nat) (A : Nat) : Nat → Nat
  | 0 => 0
  | k + 1 => q_le B A k + B (A + k) * 256 ^ k
theorem q_le_lt {B : Nat → Nat} (hB : ∀ j, B j < 256) (A : Nat) : ∀ k, q_le B A k < 256 ^ k := by
  intro k
  induction k with
  | zero => exact Nat.one_pos
  | succ k ih =>
    unfold q_le
    have := hB (A + k)
    rw [Nat.pow_succ]
    have h1 : B (A + k) * 256 ^ k ≤ 255 * 256 ^ k := Nat.mul_le_mul_right _ (by omega)
    omega
theorem q_le_4 (B : Nat → Nat) (A : Nat) : q_le B A 4 = q_sz B A := by
  unfold q_le q_le q_le q_le q_le q_sz
  simp only [Nat.add_zero]
  omega
theorem q_le_8 (B : Nat → Nat) (A : Nat) : q_le B A 8 = q_sz B A + 4294967296 * q_sz B (A + 4) := by
  unfold q_le q_le q_le q_le q_le q_le q_le q_le q_le q_sz
  simp only [Nat.add_zero, Nat.add_assoc, Nat.reduceAdd]
  omega
theorem q_le_1 (B : Nat → Nat) (A : Nat) : q_le B A 1 = B A := by
  unfold q_le q_le
  simp
section C
variable {E : mmE} {d : Nat} {h : mmH} {Q : Option Value → mmH → Prop} {r la row n A lim : Nat} {B : Nat → Nat} {w : Bool}
theorem bRow_set {c : mmC} {a : Nat} {c0 : Nat × List Value} (hr : bRow h row n B) (ha : h.2.2 a = some (.inr c0)) : bRow (mm_set h a c) row n B := by
  obtain ⟨r1, ⟨f, r2, r3⟩, r4⟩ := hr
  exact ⟨r1, ⟨f, by rw [hs_ne (fun q => by rw [q, ha] at r2; cases r2)]; exact r2, r3⟩, r4⟩
theorem sp_rnum {len : Nat} (hd : 2 ≤ d) (hc : h.2.2 r = some (rdC la row A w)) (hr : bRow h row n B) (hA : A ≤ lim) (hl : lim ≤ 2000) (hlen : len ≤ 8)
    (hq1 : A + len ≤ lim → Q (some (.long (lN (q_le B A len)))) (mm_set h r (rdC la row (A + len) w))) (hq2 : lim < A + len → Q (some (.long (lN 0))) (mm_set h r (rdC la row A true))) : mm_Go E d 38 (mm_blk 38 0) [.ref r, .int (nI len), .int (nI lim), mm_un, mm_un, mm_un] [] h Q := by
  have hB := hr.2.2.1
  unfold rdC at hc hq1 hq2
  repeat (first | refine gi_con ?_ | refine gi_bip (Nat.le_of_ble_eq_true rfl) ?_ | refine gi_sip (Nat.le_of_ble_eq_true rfl) ?_ | refine gi_ldc ?_ | refine gi_add ?_ | refine gi_inc rfl ?_ | refine gi_sub (by omega) ?_ | refine gi_mul ?_ | refine go_nx rfl ?_)
  refine gf_get _ hc (by decide) rfl ?_
  repeat (first | refine gi_con ?_ | refine gi_bip (Nat.le_of_ble_eq_true rfl) ?_ | refine gi_sip (Nat.le_of_ble_eq_true rfl) ?_ | refine gi_ldc ?_ | refine gi_add ?_ | refine gi_inc rfl ?_ | refine gi_sub (by omega) ?_ | refine gi_mul ?_ | refine go_nx rfl ?_)
  first | refine gb_lt (by omega) (by omega) (fun c1 => ?_) (fun c1 => ?_) | refine gb_ge (by omega) (by omega) (fun c1 => ?_) (fun c1 => ?_) | refine gb_gt (by omega) (by omega) (fun c1 => ?_) (fun c1 => ?_) | refine gb_le (by omega) (by omega) (fun c1 => ?_) (fun c1 => ?_) | refine gb_eq (by omega) (by omega) (fun c1 => ?_) (fun c1 => ?_) | refine gb_ne (by omega) (by omega) (fun c1 => ?_) (fun c1 => ?_)
  · have loop : ∀ (m i : Nat), m + i = len → mm_Go E d 38 (mm_blk 38 2) [.ref r, .int (nI len), .int (nI lim), .long (lN (q_le B A i)), mm_un, .int (nI i)] [] h Q := by
      intro m
      induction m with
      | zero =>
        intro i hm
        have hi : i = len := by omega
        subst hi
        repeat (first | refine gi_con ?_ | refine gi_bip (Nat.le_of_ble_eq_true rfl) ?_ | refine gi_sip (Nat.le_of_ble_eq_true rfl) ?_ | refine gi_ldc ?_ | refine gi_add ?_ | refine gi_inc rfl ?_ | refine gi_sub (by omega) ?_ | refine gi_mul ?_ | refine go_nx rfl ?_)
        first | refine gb_lt (by omega) (by omega) (fun c2 => ?_) (fun c2 => ?_) | refine gb_ge (by omega) (by omega) (fun c2 => ?_) (fun c2 => ?_) | refine gb_gt (by omega) (by omega) (fun c2 => ?_) (fun c2 => ?_) | refine gb_le (by omega) (by omega) (fun c2 => ?_) (fun c2 => ?_) | refine gb_eq (by omega) (by omega) (fun c2 => ?_) (fun c2 => ?_) | refine gb_ne (by omega) (by omega) (fun c2 => ?_) (fun c2 => ?_)
        · repeat (first | refine gi_con ?_ | refine gi_bip (Nat.le_of_ble_eq_true rfl) ?_ | refine gi_sip (Nat.le_of_ble_eq_true rfl) ?_ | refine gi_ldc ?_ | refine gi_add ?_ | refine gi_inc rfl ?_ | refine gi_sub (by omega) ?_ | refine gi_mul ?_ | refine go_nx rfl ?_)
          refine gf_get _ hc (by decide) rfl ?_
          repeat (first | refine gi_con ?_ | refine gi_bip (Nat.le_of_ble_eq_true rfl) ?_ | refine gi_sip (Nat.le_of_ble_eq_true rfl) ?_ | refine gi_ldc ?_ | refine gi_add ?_ | refine gi_inc rfl ?_ | refine gi_sub (by omega) ?_ | refine gi_mul ?_ | refine go_nx rfl ?_)
          refine gc_put (fs' := [.ref la, .ref row, .int (nI (A + i)), .int (q_t w)]) hc rfl (Nat.le_of_ble_eq_true rfl) rfl rfl ?_
          repeat (first | refine gi_con ?_ | refine gi_bip (Nat.le_of_ble_eq_true rfl) ?_ | refine gi_sip (Nat.le_of_ble_eq_true rfl) ?_ | refine gi_ldc ?_ | refine gi_add ?_ | refine gi_inc rfl ?_ | refine gi_sub (by omega) ?_ | refine gi_mul ?_ | refine go_nx rfl ?_)
          refine go_rt rfl ?_
          exact hq1 (by omega)
        · omega
      | succ m ih =>
        intro i hm
        repeat (first | refine gi_con ?_ | refine gi_bip (Nat.le_of_ble_eq_true rfl) ?_ | refine gi_sip (Nat.le_of_ble_eq_true rfl) ?_ | refine gi_ldc ?_ | refine gi_add ?_ | refine gi_inc rfl ?_ | refine gi_sub (by omega) ?_ | refine gi_mul ?_ | refine go_nx rfl ?_)
        first | refine gb_lt (by omega) (by omega) (fun c2 => ?_) (fun c2 => ?_) | refine gb_ge (by omega) (by omega) (fun c2 => ?_) (fun c2 => ?_) | refine gb_gt (by omega) (by omega) (fun c2 => ?_) (fun c2 => ?_) | refine gb_le (by omega) (by omega) (fun c2 => ?_) (fun c2 => ?_) | refine gb_eq (by omega) (by omega) (fun c2 => ?_) (fun c2 => ?_) | refine gb_ne (by omega) (by omega) (fun c2 => ?_) (fun c2 => ?_)
        · omega
        repeat (first | refine gi_con ?_ | refine gi_bip (Nat.le_of_ble_eq_true rfl) ?_ | refine gi_sip (Nat.le_of_ble_eq_true rfl) ?_ | refine gi_ldc ?_ | refine gi_add ?_ | refine gi_inc rfl ?_ | refine gi_sub (by omega) ?_ | refine gi_mul ?_ | refine go_nx rfl ?_)
        refine gf_get _ hc (by decide) rfl ?_
        repeat (first | refine gi_con ?_ | refine gi_bip (Nat.le_of_ble_eq_true rfl) ?_ | refine gi_sip (Nat.le_of_ble_eq_true rfl) ?_ | refine gi_ldc ?_ | refine gi_add ?_ | refine gi_inc rfl ?_ | refine gi_sub (by omega) ?_ | refine gi_mul ?_ | refine go_nx rfl ?_)
        refine gf_get _ hc (by decide) rfl ?_
        repeat (first | refine gi_con ?_ | refine gi_bip (Nat.le_of_ble_eq_true rfl) ?_ | refine gi_sip (Nat.le_of_ble_eq_true rfl) ?_ | refine gi_ldc ?_ | refine gi_add ?_ | refine gi_inc rfl ?_ | refine gi_sub (by omega) ?_ | refine gi_mul ?_ | refine go_nx rfl ?_)
        refine go_step ?_
        refine g_call (k := 11) rfl (by omega) (Nat.le_of_ble_eq_true rfl) rfl ?_
        refine sp_atN hr (by omega) ?_
        have hb := hB (A + i)
        have hle := q_le_lt hB A i
        have hpw : (256 : Nat) ^ i = 2 ^ (8 * i) := by rw [show (256 : Nat) = 2 ^ 8 from rfl, ← Nat.pow_mul]
        have hmax : (2 : Nat) ^ (8 * i) * 256 ≤ 2 ^ 64 := by
          rw [show (256 : Nat) = 2 ^ 8 from rfl, ← Nat.pow_add]
          exact Nat.pow_le_pow_right (by decide) (by omega)
        have hmul : B (A + i) * 2 ^ (8 * i) ≤ 255 * 2 ^ (8 * i) := Nat.mul_le_mul_right _ (by omega)
        repeat (first | refine gi_con ?_ | refine gi_bip (Nat.le_of_ble_eq_true rfl) ?_ | refine gi_sip (Nat.le_of_ble_eq_true rfl) ?_ | refine gi_ldc ?_ | refine gi_add ?_ | refine gi_inc rfl ?_ | refine gi_sub (by omega) ?_ | refine gi_mul ?_ | refine go_nx rfl ?_)
        refine go_jp rfl ?_
        rw [nI_l (show B (A + i) < 2 ^ 31 by omega), wb_shl _ (show 8 * i < 64 by omega), g_or' (k := 8 * i) rfl (by rw [← hpw]; exact hle) (by rw [hpw] at hle; omega), ← hpw]
        exact ih (i + 1) (by omega)
    repeat (first | refine gi_con ?_ | refine gi_bip (Nat.le_of_ble_eq_true rfl) ?_ | refine gi_sip (Nat.le_of_ble_eq_true rfl) ?_ | refine gi_ldc ?_ | refine gi_add ?_ | refine gi_inc rfl ?_ | refine gi_sub (by omega) ?_ | refine gi_mul ?_ | refine go_nx rfl ?_)
    refine go_jp rfl ?_
    exact loop len 0 (by omega)
  · repeat (first | refine gi_con ?_ | refine gi_bip (Nat.le_of_ble_eq_true rfl) ?_ | refine gi_sip (Nat.le_of_ble_eq_true rfl) ?_ | refine gi_ldc ?_ | refine gi_add ?_ | refine gi_inc rfl ?_ | refine gi_sub (by omega) ?_ | refine gi_mul ?_ | refine go_nx rfl ?_)
    refine gc_put (fs' := [.ref la, .ref row, .int (nI A), .int (q_t true)]) hc rfl (Nat.le_of_ble_eq_true rfl) rfl rfl ?_
    repeat (first | refine gi_con ?_ | refine gi_bip (Nat.le_of_ble_eq_true rfl) ?_ | refine gi_sip (Nat.le_of_ble_eq_true rfl) ?_ | refine gi_ldc ?_ | refine gi_add ?_ | refine gi_inc rfl ?_ | refine gi_sub (by omega) ?_ | refine gi_mul ?_ | refine go_nx rfl ?_)
    refine go_rt rfl ?_
    exact hq2 (by omega)
theorem sp_nmFrom {a p : Nat} {fs : List Value} (ha : h.2.2 a = some (.inr (4, fs))) (hp : fs[2]? = some (.int (nI p))) (hq : Q (some (.int (nI (p + 1)))) h) : mm_Go E d 51 (mm_blk 51 0) [.ref a] [] h Q := by
  repeat (first | refine gi_con ?_ | refine gi_bip (Nat.le_of_ble_eq_true rfl) ?_ | refine gi_sip (Nat.le_of_ble_eq_true rfl) ?_ | refine gi_ldc ?_ | refine gi_add ?_ | refine gi_inc rfl ?_ | refine gi_sub (by omega) ?_ | refine gi_mul ?_ | refine go_nx rfl ?_)
  refine gf_get (.int (nI p)) ha (by decide) hp ?_
  repeat (first | refine gi_con ?_ | refine gi_bip (Nat.le_of_ble_eq_true rfl) ?_ | refine gi_sip (Nat.le_of_ble_eq_true rfl) ?_ | refine gi_ldc ?_ | refine gi_add ?_ | refine gi_inc rfl ?_ | refine gi_sub (by omega) ?_ | refine gi_mul ?_ | refine go_nx rfl ?_)
  refine go_rt rfl ?_
  exact hq
/-- the text of a node -/
def q_tf (B : Nat → Nat) (x : Nat) : Int32 := if B x = 2 then nI (q_val B x + 4) else 0
def q_tt (B : Nat → Nat) (x : Nat) : Int32 := if B x = 2 then nI (q_val B x + 3 + q_sz B (q_val B x)) else 0
def q_nu (B : Nat → Nat) (x : Nat) : Int64 := if B x = 16 ∨ B x = 18 ∨ B x = 8 then q_num B (B x) (q_val B x) else 0
theorem sp_rtext {p : Nat} {fi nx : Value} {ord : Int32} (hd : 3 ≤ d) (hc : h.2.2 r = some (rdC la row (q_val B p) false)) (hr : bRow h row n B) (hA : q_val B p ≤ lim) (hl : lim ≤ 2000) {a : Nat} (ha : h.2.2 a = some (nCell row B p 0 0 0 fi nx ord)) (hk2 : B p = 2)
    (hq1 : q_vok (fun _ _ _ => true) B p lim = true → Q none (mm_set (mm_set h a (nCell row B p (q_tf B p) (q_tt B p) 0 fi nx ord)) r (rdC la row (q_next B p) false)))
    (hq2 : q_vok (fun _ _ _ => true) B p lim = false → ∀ A' tf tt, q_val B p ≤ A' → A' ≤ lim → Q none (mm_set (mm_set h a (nCell row B p tf tt 0 fi nx ord)) r (rdC la row A' true))) : mm_Go E d 49 (mm_blk 49 0) [.ref r, .ref a, .int (nI lim), mm_un] [] h Q := by
  have hs := q_sz_lt hr.2.2.1 (q_val B p)
  have hra : r ≠ a := fun q => by rw [q, ha] at hc; cases hc
  have hc0 : h.2.2 r = some (.inr (2, [.ref la, .ref row, .int (nI (q_val B p)), .int (q_t false)])) := hc
  have ha0 : h.2.2 a = some (.inr (4, [.ref row, .int (nI (B p)), .int (nI p), .int (nI (q_ne B p)), .int (nI (q_word B p)), .int (nI (q_cls (B p))), .int 0, .int 0, .long 0, fi, nx, .int ord])) := ha
  have e : q_vok (fun _ _ _ => true) B p lim = (decide (1 ≤ q_sz B (q_val B p)) && decide (q_val B p + 4 + q_sz B (q_val B p) ≤ lim) && decide (B (q_val B p + 3 + q_sz B (q_val B p)) = 0)) := by
    unfold q_vok
    rw [if_neg (by omega), if_neg (by omega), if_neg (by omega), if_pos hk2]
  have enx : q_next B p = q_val B p + 4 + q_sz B (q_val B p) := by
    unfold q_next q_ln
    rw [if_neg (by omega), if_neg (by omega), if_neg (by omega), if_pos hk2]
    omega
  have same : ∀ c, mm_set h r c = mm_set (mm_set h a (nCell row B p 0 0 0 fi nx ord)) r c := by
    intro c
    unfold mm_set
    refine Prod.ext rfl (Prod.ext rfl ?_)
    funext z
    show va_up h.2.2 r _ z = va_up (va_up h.2.2 a _) r _ z
    unfold va_up
    by_cases h1 : z = r
    · simp [h1]
    · by_cases h2 : z = a
      · simp [h1, h2, ha, Ne.symm hra]
      · simp [h1, h2]
  have wr : ∀ (A' : Nat) (w0 : Bool) (x3 : Int32), q_val B p ≤ A' → A' ≤ lim → q_vok (fun _ _ _ => true) B p lim = false → mm_Go E d 49 (mm_blk 49 1) [.ref r, .ref a, .int (nI lim), .int x3] [] (mm_set h r (rdC la row A' w0)) Q := by
    intro A' w0 x3 h1 h2 h3
    have hcr : (mm_set h r (rdC la row A' w0)).2.2 r = some (.inr (2, [.ref la, .ref row, .int (nI A'), .int (q_t w0)])) := hs_at
    repeat (first | refine gi_con ?_ | refine gi_bip (Nat.le_of_ble_eq_true rfl) ?_ | refine gi_sip (Nat.le_of_ble_eq_true rfl) ?_ | refine gi_ldc ?_ | refine gi_add ?_ | refine gi_inc rfl ?_ | refine gi_sub (by omega) ?_ | refine gi_mul ?_ | refine go_nx rfl ?_)
    refine gc_put (fs' := [.ref la, .ref row, .int (nI A'), .int (q_t true)]) hcr rfl (Nat.le_of_ble_eq_true rfl) rfl rfl ?_
    rw [hs_set]
    refine go_rt rfl ?_
    rw [show (mm_set h r (.inr (2, [.ref la, .ref row, .int (nI A'), .int (q_t true)])) : mmH) = mm_set (mm_set h a (nCell row B p 0 0 0 fi nx ord)) r (rdC la row A' true) from same _]
    exact hq2 h3 A' 0 0 h1 h2
  repeat (first | refine gi_con ?_ | refine gi_bip (Nat.le_of_ble_eq_true rfl) ?_ | refine gi_sip (Nat.le_of_ble_eq_true rfl) ?_ | refine gi_ldc ?_ | refine gi_add ?_ | refine gi_inc rfl ?_ | refine gi_sub (by omega) ?_ | refine gi_mul ?_ | refine go_nx rfl ?_)
  refine go_step ?_
  refine g_callV (by decide) (by decide) (Nat.le_of_ble_eq_true rfl) (Nat.le_of_ble_eq_true rfl) (o_rcv hc0 rfl (by decide)) (by omega) (Nat.le_of_ble_eq_true rfl) rfl ?_
  refine sp_rnum (by omega) hc hr hA hl (by omega) (fun hle => ?_) (fun hlt => ?_)
  · rw [q_le_4]
    have hcr : (mm_set h r (rdC la row (q_val B p + 4) false)).2.2 r = some (.inr (2, [.ref la, .ref row, .int (nI (q_val B p + 4)), .int (q_t false)])) := hs_at
    repeat (first | refine gi_con ?_ | refine gi_bip (Nat.le_of_ble_eq_true rfl) ?_ | refine gi_sip (Nat.le_of_ble_eq_true rfl) ?_ | refine gi_ldc ?_ | refine gi_add ?_ | refine gi_inc rfl ?_ | refine gi_sub (by omega) ?_ | refine gi_mul ?_ | refine go_nx rfl ?_)
    rw [lN_i]
    refine gf_get _ hcr (by decide) rfl ?_
    refine gt_ne (fun c => by cases c) (fun _ => ?_)
    repeat (first | refine gi_con ?_ | refine gi_bip (Nat.le_of_ble_eq_true rfl) ?_ | refine gi_sip (Nat.le_of_ble_eq_true rfl) ?_ | refine gi_ldc ?_ | refine gi_add ?_ | refine gi_inc rfl ?_ | refine gi_sub (by omega) ?_ | refine gi_mul ?_ | refine go_nx rfl ?_)
    by_cases hbig : 2 ^ 31 ≤ q_sz B (q_val B p)
    · refine gn_lt hbig hs (by omega) ?_
      exact wr _ _ _ (by omega) (by omega) (by rw [e, decide_eq_false (show ¬ q_val B p + 4 + q_sz B (q_val B p) ≤ lim by omega), Bool.and_false]; rfl)
    first | refine gb_lt (by omega) (by omega) (fun c2 => ?_) (fun c2 => ?_) | refine gb_ge (by omega) (by omega) (fun c2 => ?_) (fun c2 => ?_) | refine gb_gt (by omega) (by omega) (fun c2 => ?_) (fun c2 => ?_) | refine gb_le (by omega) (by omega) (fun c2 => ?_) (fun c2 => ?_) | refine gb_eq (by omega) (by omega) (fun c2 => ?_) (fun c2 => ?_) | refine gb_ne (by omega) (by omega) (fun c2 => ?_) (fun c2 => ?_)
    · exact wr _ _ _ (by omega) (by omega) (by rw [e, decide_eq_false (show ¬ 1 ≤ q_sz B (q_val B p) by omega)]; rfl)
    repeat (first | refine gi_con ?_ | refine gi_bip (Nat.le_of_ble_eq_true rfl) ?_ | refine gi_sip (Nat.le_of_ble_eq_true rfl) ?_ | refine gi_ldc ?_ | refine gi_add ?_ | refine gi_inc rfl ?_ | refine gi_sub (by omega) ?_ | refine gi_mul ?_ | refine go_nx rfl ?_)
    refine gf_get _ hcr (by decide) rfl ?_
    repeat (first | refine gi_con ?_ | refine gi_bip (Nat.le_of_ble_eq_true rfl) ?_ | refine gi_sip (Nat.le_of_ble_eq_true rfl) ?_ | refine gi_ldc ?_ | refine gi_add ?_ | refine gi_inc rfl ?_ | refine gi_sub (by omega) ?_ | refine gi_mul ?_ | refine go_nx rfl ?_)
    first | refine gb_lt (by omega) (by omega) (fun c3 => ?_) (fun c3 => ?_) | refine gb_ge (by omega) (by omega) (fun c3 => ?_) (fun c3 => ?_) | refine gb_gt (by omega) (by omega) (fun c3 => ?_) (fun c3 => ?_) | refine gb_le (by omega) (by omega) (fun c3 => ?_) (fun c3 => ?_) | refine gb_eq (by omega) (by omega) (fun c3 => ?_) (fun c3 => ?_) | refine gb_ne (by omega) (by omega) (fun c3 => ?_) (fun c3 => ?_)
    rotate_left
    · refine go_jp rfl ?_
      exact wr _ _ _ (by omega) (by omega) (by rw [e, decide_eq_false (show ¬ q_val B p + 4 + q_sz B (q_val B p) ≤ lim by omega), Bool.and_false]; rfl)
    have hcr0 : (mm_set h r (rdC la row (q_val B p + 4) false)).2.2 a = some (.inr (4, [.ref row, .int (nI (B p)), .int (nI p), .int (nI (q_ne B p)), .int (nI (q_word B p)), .int (nI (q_cls (B p))), .int 0, .int 0, .long 0, fi, nx, .int ord])) := by rw [hs_ne (Ne.symm hra)]; exact ha0
    repeat (first | refine gi_con ?_ | refine gi_bip (Nat.le_of_ble_eq_true rfl) ?_ | refine gi_sip (Nat.le_of_ble_eq_true rfl) ?_ | refine gi_ldc ?_ | refine gi_add ?_ | refine gi_inc rfl ?_ | refine gi_sub (by omega) ?_ | refine gi_mul ?_ | refine go_nx rfl ?_)
    refine gf_get _ hcr (by decide) rfl ?_
    refine gc_put (fs' := [.ref row, .int (nI (B p)), .int (nI p), .int (nI (q_ne B p)), .int (nI (q_word B p)), .int (nI (q_cls (B p))), .int (nI (q_val B p + 4)), .int 0, .long 0, fi, nx, .int ord]) hcr0 rfl (Nat.le_of_ble_eq_true rfl) rfl rfl ?_
    repeat (first | refine gi_con ?_ | refine gi_bip (Nat.le_of_ble_eq_true rfl) ?_ | refine gi_sip (Nat.le_of_ble_eq_true rfl) ?_ | refine gi_ldc ?_ | refine gi_add ?_ | refine gi_inc rfl ?_ | refine gi_sub (by omega) ?_ | refine gi_mul ?_ | refine go_nx rfl ?_)
    refine gf_get _ (by rw [hs_ne hra]; exact hcr) (by decide) rfl ?_
    repeat (first | refine gi_con ?_ | refine gi_bip (Nat.le_of_ble_eq_true rfl) ?_ | refine gi_sip (Nat.le_of_ble_eq_true rfl) ?_ | refine gi_ldc ?_ | refine gi_add ?_ | refine gi_inc rfl ?_ | refine gi_sub (by omega) ?_ | refine gi_mul ?_ | refine go_nx rfl ?_)
    refine gc_put (fs' := [.ref row, .int (nI (B p)), .int (nI p), .int (nI (q_ne B p)), .int (nI (q_word B p)), .int (nI (q_cls (B p))), .int (nI (q_val B p + 4)), .int (nI (q_val B p + 4 + q_sz B (q_val B p) - 1)), .long 0, fi, nx, .int ord]) hs_at rfl (Nat.le_of_ble_eq_true rfl) rfl rfl ?_
    rw [hs_set]
    have hr2 : bRow (mm_set (mm_set h r (rdC la row (q_val B p + 4) false)) a (.inr (4, [.ref row, .int (nI (B p)), .int (nI p), .int (nI (q_ne B p)), .int (nI (q_word B p)), .int (nI (q_cls (B p))), .int (nI (q_val B p + 4)), .int (nI (q_val B p + 4 + q_sz B (q_val B p) - 1)), .long 0, fi, nx, .int ord]))) row n B := bRow_set (bRow_set hr hc0) hcr0
    repeat (first | refine gi_con ?_ | refine gi_bip (Nat.le_of_ble_eq_true rfl) ?_ | refine gi_sip (Nat.le_of_ble_eq_true rfl) ?_ | refine gi_ldc ?_ | refine gi_add ?_ | refine gi_inc rfl ?_ | refine gi_sub (by omega) ?_ | refine gi_mul ?_ | refine go_nx rfl ?_)
    refine gf_get _ (by rw [hs_ne hra]; exact hcr) (by decide) rfl ?_
    repeat (first | refine gi_con ?_ | refine gi_bip (Nat.le_of_ble_eq_true rfl) ?_ | refine gi_sip (Nat.le_of_ble_eq_true rfl) ?_ | refine gi_ldc ?_ | refine gi_add ?_ | refine gi_inc rfl ?_ | refine gi_sub (by omega) ?_ | refine gi_mul ?_ | refine go_nx rfl ?_)
    refine gf_get _ hs_at (by decide) rfl ?_
    repeat (first | refine gi_con ?_ | refine gi_bip (Nat.le_of_ble_eq_true rfl) ?_ | refine gi_sip (Nat.le_of_ble_eq_true rfl) ?_ | refine gi_ldc ?_ | refine gi_add ?_ | refine gi_inc rfl ?_ | refine gi_sub (by omega) ?_ | refine gi_mul ?_ | refine go_nx rfl ?_)
    refine go_step ?_
    refine g_call (k := 11) rfl (by omega) (Nat.le_of_ble_eq_true rfl) rfl ?_
    refine sp_atN hr2 (by omega) ?_
    have hb0 := hr.2.2.1 (q_val B p + 4 + q_sz B (q_val B p) - 1)
    have four : ∀ (b : Bool), (b = true ↔ B (q_val B p + 3 + q_sz B (q_val B p)) ≠ 0) → mm_Go E d 49 (mm_blk 49 4) [.ref r, .ref a, .int (nI lim), .int (nI (q_sz B (q_val B p)))] [.int (q_t b), .ref r] (mm_set (mm_set h r (rdC la row (q_val B p + 4) false)) a (.inr (4, [.ref row, .int (nI (B p)), .int (nI p), .int (nI (q_ne B p)), .int (nI (q_word B p)), .int (nI (q_cls (B p))), .int (nI (q_val B p + 4)), .int (nI (q_val B p + 4 + q_sz B (q_val B p) - 1)), .long 0, fi, nx, .int ord]))) Q := by
      intro b hb
      refine gc_put (fs' := [.ref la, .ref row, .int (nI (q_val B p + 4)), .int (q_t b)]) (by rw [hs_ne hra]; exact hcr) rfl (Nat.le_of_ble_eq_true rfl) (by cases b <;> rfl) rfl ?_
      repeat (first | refine gi_con ?_ | refine gi_bip (Nat.le_of_ble_eq_true rfl) ?_ | refine gi_sip (Nat.le_of_ble_eq_true rfl) ?_ | refine gi_ldc ?_ | refine gi_add ?_ | refine gi_inc rfl ?_ | refine gi_sub (by omega) ?_ | refine gi_mul ?_ | refine go_nx rfl ?_)
      refine gf_get _ hs_at (by decide) rfl ?_
      repeat (first | refine gi_con ?_ | refine gi_bip (Nat.le_of_ble_eq_true rfl) ?_ | refine gi_sip (Nat.le_of_ble_eq_true rfl) ?_ | refine gi_ldc ?_ | refine gi_add ?_ | refine gi_inc rfl ?_ | refine gi_sub (by omega) ?_ | refine gi_mul ?_ | refine go_nx rfl ?_)
      refine gc_put (fs' := [.ref la, .ref row, .int (nI (q_val B p + 4 + q_sz B (q_val B p))), .int (q_t b)]) hs_at rfl (Nat.le_of_ble_eq_true rfl) rfl rfl ?_
      rw [hs_set]
      refine go_rt rfl ?_
      have fin : ∀ (c1 c2 c3 : mmC), mm_set (mm_set (mm_set h r c1) a c2) r c3 = mm_set (mm_set h a c2) r c3 := by
        intro c1 c2 c3
        unfold mm_set
        refine Prod.ext rfl (Prod.ext rfl ?_)
        funext z
        show va_up (va_up (va_up h.2.2 r _) a _) r _ z = va_up (va_up h.2.2 a _) r _ z
        unfold va_up
        by_cases h1 : z = r
        · simp [h1]
        · simp [h1]
      rw [fin]
      cases b with
      | false =>
        have hb1 : B (q_val B p + 3 + q_sz B (q_val B p)) = 0 := by
          by_cases hz : B (q_val B p + 3 + q_sz B (q_val B p)) = 0
          · exact hz
          · have := hb.mpr hz
            cases this
        have hvk : q_vok (fun _ _ _ => true) B p lim = true := by
          rw [e, decide_eq_true (by omega), decide_eq_true (by omega), decide_eq_true hb1]
          rfl
        have := hq1 hvk
        unfold q_tf q_tt at this
        rw [if_pos hk2, if_pos hk2, enx, show q_val B p + 3 + q_sz B (q_val B p) = q_val B p + 4 + q_sz B (q_val B p) - 1 by omega] at this
        exact this
      | true =>
        have hvk : q_vok (fun _ _ _ => true) B p lim = false := by
          rw [e, decide_eq_false (hb.mp rfl), Bool.and_false]
        exact hq2 hvk _ _ _ (by omega) (by omega)
    repeat (first | refine gi_con ?_ | refine gi_bip (Nat.le_of_ble_eq_true rfl) ?_ | refine gi_sip (Nat.le_of_ble_eq_true rfl) ?_ | refine gi_ldc ?_ | refine gi_add ?_ | refine gi_inc rfl ?_ | refine gi_sub (by omega) ?_ | refine gi_mul ?_ | refine go_nx rfl ?_)
    first | refine gz_eq (by omega) (fun c4 => ?_) (fun c4 => ?_) | refine gz_ne (by omega) (fun c4 => ?_) (fun c4 => ?_) | refine gz_le (by omega) (fun c4 => ?_) (fun c4 => ?_) | refine gz_gt (by omega) (fun c4 => ?_) (fun c4 => ?_) | refine gz_lt (by omega) (fun c4 => ?_) (fun c4 => ?_) | refine gz_ge (by omega) (fun c4 => ?_) (fun c4 => ?_)
    · repeat (first | refine gi_con ?_ | refine gi_bip (Nat.le_of_ble_eq_true rfl) ?_ | refine gi_sip (Nat.le_of_ble_eq_true rfl) ?_ | refine gi_ldc ?_ | refine gi_add ?_ | refine gi_inc rfl ?_ | refine gi_sub (by omega) ?_ | refine gi_mul ?_ | refine go_nx rfl ?_)
      refine go_jp rfl ?_
      refine four false ⟨fun q => Bool.noConfusion q, fun q => absurd ?_ q⟩
      rw [show q_val B p + 3 + q_sz B (q_val B p) = q_val B p + 4 + q_sz B (q_val B p) - 1 by omega]
      exact c4
    · repeat (first | refine gi_con ?_ | refine gi_bip (Nat.le_of_ble_eq_true rfl) ?_ | refine gi_sip (Nat.le_of_ble_eq_true rfl) ?_ | refine gi_ldc ?_ | refine gi_add ?_ | refine gi_inc rfl ?_ | refine gi_sub (by omega) ?_ | refine gi_mul ?_ | refine go_nx rfl ?_)
      refine go_jp rfl ?_
      refine four true ⟨fun _ => ?_, fun _ => rfl⟩
      rw [show q_val B p + 3 + q_sz B (q_val B p) = q_val B p + 4 + q_sz B (q_val B p) - 1 by omega]
      omega
  · have hcr : (mm_set h r (rdC la row (q_val B p) true)).2.2 r = some (.inr (2, [.ref la, .ref row, .int (nI (q_val B p)), .int (q_t true)])) := hs_at
    repeat (first | refine gi_con ?_ | refine gi_bip (Nat.le_of_ble_eq_true rfl) ?_ | refine gi_sip (Nat.le_of_ble_eq_true rfl) ?_ | refine gi_ldc ?_ | refine gi_add ?_ | refine gi_inc rfl ?_ | refine gi_sub (by omega) ?_ | refine gi_mul ?_ | refine go_nx rfl ?_)
    refine gf_get _ hcr (by decide) rfl ?_
    refine gt_ne (fun _ => ?_) (fun c => by cases c)
    refine wr _ _ _ (by omega) hA ?_
    rw [e]
    by_cases h1 : 1 ≤ q_sz B (q_val B p)
    · rw [decide_eq_false (show ¬ q_val B p + 4 + q_sz B (q_val B p) ≤ lim by omega), Bool.and_false]
      rfl
    · rw [decide_eq_false h1]
      rfl
end C
