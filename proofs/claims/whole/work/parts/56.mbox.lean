/-! THE REFERENCE: is it a document -/
theorem nI_neg {x : Nat} (h1 : 2 ^ 31 ≤ x) (h2 : x < 2 ^ 32) : nI x < 0 := by
  rw [Int32.lt_iff_toInt_lt]
  have e : (nI x).toInt = (x : Int) - 2 ^ 32 := by
    show (BitVec.ofNat 32 x).toInt = _
    rw [BitVec.toInt_ofNat', Int.bmod_def]
    omega
  rw [e]
  show (x : Int) - 2 ^ 32 < 0
  omega
section BIG
variable {E : mmE} {d m pc idx : Nat} {is : List mmI} {L S : List Value} {h : mmH} {Q : Option Value → mmH → Prop} {ex : List Nat} {off : Int} {x y : Nat}
theorem gn_lt (h1 : 2 ^ 31 ≤ x) (h2 : x < 2 ^ 32) (hy : y < 2 ^ 31) (hg : mm_Go E d m (mm_blk m (mm_k0 ex)) L S h Q) : mm_Go E d m ((pc, .if_icmp .lt off, ex) :: is) L (.int (nI y) :: .int (nI x) :: S) h Q :=
  go_br (c := decide (nI x < nI y)) rfl (fun _ => hg) (fun c => absurd (by
    have h3 := nI_neg h1 h2
    have h4 := nI_pos' hy
    exact Int32.lt_of_lt_of_le h3 h4) (of_decide_eq_false c))
theorem gn_zle (h1 : 2 ^ 31 ≤ x) (h2 : x < 2 ^ 32) (hg : mm_Go E d m (mm_blk m (mm_k0 ex)) L S h Q) : mm_Go E d m ((pc, .ifCond .le off, ex) :: is) L (.int (nI x) :: S) h Q :=
  go_br (c := decide (nI x ≤ 0)) rfl (fun _ => hg) (fun c => absurd (Int32.le_of_lt (nI_neg h1 h2)) (of_decide_eq_false c))
end BIG
/-- the n bytes of B stand in the store from b on -/
def mW (R : Nat → Nat) (b n : Nat) (B : Nat → Nat) : Prop := (∀ j, j < n → R (b + j) = B j) ∧ b + n ≤ 22000 ∧ q_row B n
/-- an element that lies within the first n bytes -/
def q_ok (B : Nat → Nat) (n x : Nat) : Prop := x < n ∧ q_ne B x < n ∧ q_next B x ≤ n ∧ (B x = 3 ∨ B x = 4 → 5 ≤ q_sz B (q_val B x))
theorem q_sz_lt {B : Nat → Nat} (hB : ∀ j, B j < 256) (v : Nat) : q_sz B v < 2 ^ 32 := by
  unfold q_sz
  have h0 := hB v
  have h1 := hB (v + 1)
  have h2 := hB (v + 2)
  have h3 := hB (v + 3)
  omega
theorem mW_sz {R B : Nat → Nat} {b n v : Nat} (hw : mW R b n B) (hv : v + 4 ≤ n) : q_sz R (b + v) = q_sz B v := by
  unfold q_sz
  rw [Nat.add_assoc b v 1, Nat.add_assoc b v 2, Nat.add_assoc b v 3, hw.1 v (by omega), hw.1 (v + 1) (by omega), hw.1 (v + 2) (by omega), hw.1 (v + 3) (by omega)]
section M
variable {E : mmE} {d : Nat} {h : mmH} {Q : Option Value → mmH → Prop} {o st b n : Nat} {R B : Nat → Nat}
theorem sp_mat2 {x : Nat} (hm : mSt h o st R) (hw : mW R b n B) (hx : x < n) (hq : Q (some (.int (nI (B x)))) h) : mm_Go E d 114 (mm_blk 114 0) [.ref o, .int (nI (b + x))] [] h Q := by
  have := hw.2.1
  refine sp_mat hm (by omega) ?_
  rw [hw.1 x hx]
  exact hq
theorem sp_mwh {v : Nat} (hd : 1 ≤ d) (hm : mSt h o st R) (hw : mW R b n B) (hv : v + 4 ≤ n) (hq : Q (some (.int (nI (q_sz B v)))) h) : mm_Go E d 118 (mm_blk 118 0) [.ref o, .int (nI (b + v))] [] h Q := by
  have := hw.2.1
  refine sp_whole hd hm (by omega) ?_
  rw [q_w_sz, mW_sz hw hv]
  exact hq
theorem sp_mne {x : Nat} (hm : mSt h o st R) (hw : mW R b n B) (hx : q_ne B x < n) (hq : Q (some (.int (nI (b + q_ne B x)))) h) : mm_Go E d 124 (mm_blk 124 0) [.ref o, .int (nI (b + x + 1)), mm_un] [] h Q := by
  have h2 := hw.2.1
  have h3 := hw.2.2.1
  have hx0 : x ≤ 2000 := by
    by_cases hx0 : x ≤ 2000
    · exact hx0
    · have : x + 1 ≤ q_ne B x := by
        have hz := (q_z_is (B := B) 2002 (x + 1) (x + 1) (Nat.le_refl _) (by omega) (hw.2.2.2.2 _ (by omega))).1
        exact hz
      omega
  obtain ⟨a1, a2, a3⟩ := q_ne_is hw.2.2 hx0
  refine sp_nameEnd hm (by omega) (by omega) (by rw [hw.1 _ hx]; exact a2) (fun j h4 h5 => ?_) hq
  rw [show j = b + (j - b) by omega, hw.1 _ (by omega)]
  exact a3 _ (by omega) (by omega)
theorem sp_mval {x : Nat} (hd : 1 ≤ d) (hm : mSt h o st R) (hw : mW R b n B) (hx : q_ne B x < n) (hq : Q (some (.int (nI (b + q_val B x)))) h) : mm_Go E d 123 (mm_blk 123 0) [.ref o, .int (nI (b + x))] [] h Q := by
  repeat (first | refine gi_con ?_ | refine gi_bip (Nat.le_of_ble_eq_true rfl) ?_ | refine gi_sip (Nat.le_of_ble_eq_true rfl) ?_ | refine gi_ldc ?_ | refine gi_add ?_ | refine gi_inc rfl ?_ | refine gi_sub (by omega) ?_ | refine gi_mul ?_ | refine go_nx rfl ?_)
  refine go_step ?_
  refine g_callV (by decide) (by decide) (Nat.le_of_ble_eq_true rfl) (Nat.le_of_ble_eq_true rfl) (mSt_rcv hm) (by omega) (Nat.le_of_ble_eq_true rfl) rfl ?_
  refine sp_mne hm hw hx ?_
  repeat (first | refine gi_con ?_ | refine gi_bip (Nat.le_of_ble_eq_true rfl) ?_ | refine gi_sip (Nat.le_of_ble_eq_true rfl) ?_ | refine gi_ldc ?_ | refine gi_add ?_ | refine gi_inc rfl ?_ | refine gi_sub (by omega) ?_ | refine gi_mul ?_ | refine go_nx rfl ?_)
  refine go_rt rfl ?_
  exact hq
theorem sp_mbeh {x k : Nat} (hd : 2 ≤ d) (hm : mSt h o st R) (hw : mW R b n B) (hx : B x < 256) (hk : k ≤ n) (hs : B x = 2 ∨ B x = 3 ∨ B x = 4 → k + 4 ≤ n) (hq : Q (some (.int (nI (b + k + q_ln B (B x) k)))) h) : mm_Go E d 125 (mm_blk 125 0) [.ref o, .int (nI (B x)), .int (nI (b + k))] [] h Q := by
  have h2 := hw.2.1
  refine sp_behind hd hm hx (by omega) ?_
  rw [q_beh_ln]
  have e : q_ln R (B x) (b + k) = q_ln B (B x) k := by
    unfold q_ln
    by_cases h4 : B x = 2 ∨ B x = 3 ∨ B x = 4
    · rw [mW_sz hw (hs h4)]
    · rw [if_neg (fun q => h4 (Or.inl q)), if_neg (fun q => h4 (Or.inr q)), if_neg (fun q => h4 (Or.inl q)), if_neg (fun q => h4 (Or.inr q))]
  rw [e]
  exact hq
theorem q_ok_in {x : Nat} (hr : q_row B n) (hx : q_ok B n x) : x + 2 ≤ q_val B x ∧ q_val B x ≤ q_next B x ∧ (B x = 2 ∨ B x = 3 ∨ B x = 4 → q_val B x + 4 ≤ n) := by
  obtain ⟨h1, h2, h3, h4⟩ := hx
  have h5 := (q_ne_is hr (show x ≤ 2000 by have := hr.1; omega)).1
  refine ⟨by unfold q_val; omega, by unfold q_next; omega, fun q => ?_⟩
  unfold q_next q_ln at h3
  rcases q with q | q
  · rw [if_neg (by omega), if_neg (by omega), if_neg (by omega), if_pos q] at h3
    omega
  · have h6 := h4 q
    rw [if_neg (by omega), if_neg (by omega), if_neg (by omega), if_neg (by omega), if_pos q] at h3
    omega
theorem sp_mnext {x : Nat} (hd : 3 ≤ d) (hm : mSt h o st R) (hw : mW R b n B) (hx : q_ok B n x) (hq : Q (some (.int (nI (b + q_next B x)))) h) : mm_Go E d 122 (mm_blk 122 0) [.ref o, .int (nI (b + x))] [] h Q := by
  obtain ⟨i1, i2, i3⟩ := q_ok_in hw.2.2 hx
  obtain ⟨h1, h2, h3, h4⟩ := hx
  repeat (first | refine gi_con ?_ | refine gi_bip (Nat.le_of_ble_eq_true rfl) ?_ | refine gi_sip (Nat.le_of_ble_eq_true rfl) ?_ | refine gi_ldc ?_ | refine gi_add ?_ | refine gi_inc rfl ?_ | refine gi_sub (by omega) ?_ | refine gi_mul ?_ | refine go_nx rfl ?_)
  refine go_step ?_
  refine g_callV (by decide) (by decide) (Nat.le_of_ble_eq_true rfl) (Nat.le_of_ble_eq_true rfl) (mSt_rcv hm) (by omega) (Nat.le_of_ble_eq_true rfl) rfl ?_
  refine sp_mat2 hm hw h1 ?_
  repeat (first | refine gi_con ?_ | refine gi_bip (Nat.le_of_ble_eq_true rfl) ?_ | refine gi_sip (Nat.le_of_ble_eq_true rfl) ?_ | refine gi_ldc ?_ | refine gi_add ?_ | refine gi_inc rfl ?_ | refine gi_sub (by omega) ?_ | refine gi_mul ?_ | refine go_nx rfl ?_)
  refine go_step ?_
  refine g_callV (by decide) (by decide) (Nat.le_of_ble_eq_true rfl) (Nat.le_of_ble_eq_true rfl) (mSt_rcv hm) (by omega) (Nat.le_of_ble_eq_true rfl) rfl ?_
  refine sp_mval (by omega) hm hw h2 ?_
  repeat (first | refine gi_con ?_ | refine gi_bip (Nat.le_of_ble_eq_true rfl) ?_ | refine gi_sip (Nat.le_of_ble_eq_true rfl) ?_ | refine gi_ldc ?_ | refine gi_add ?_ | refine gi_inc rfl ?_ | refine gi_sub (by omega) ?_ | refine gi_mul ?_ | refine go_nx rfl ?_)
  refine go_step ?_
  refine g_callV (by decide) (by decide) (Nat.le_of_ble_eq_true rfl) (Nat.le_of_ble_eq_true rfl) (mSt_rcv hm) (by omega) (Nat.le_of_ble_eq_true rfl) rfl ?_
  refine sp_mbeh (by omega) hm hw (hw.2.2.2.1 x) (by omega) i3 ?_
  repeat (first | refine gi_con ?_ | refine gi_bip (Nat.le_of_ble_eq_true rfl) ?_ | refine gi_sip (Nat.le_of_ble_eq_true rfl) ?_ | refine gi_ldc ?_ | refine gi_add ?_ | refine gi_inc rfl ?_ | refine gi_sub (by omega) ?_ | refine gi_mul ?_ | refine go_nx rfl ?_)
  refine go_rt rfl ?_
  rw [Nat.add_assoc]
  exact hq
theorem sp_mlast {v : Nat} (hd : 2 ≤ d) (hm : mSt h o st R) (hw : mW R b n B) (hv : v + 4 ≤ n) (hs : 1 ≤ q_sz B v) (hq : Q (some (.int (nI (b + q_last B v)))) h) : mm_Go E d 128 (mm_blk 128 0) [.ref o, .int (nI (b + v))] [] h Q := by
  repeat (first | refine gi_con ?_ | refine gi_bip (Nat.le_of_ble_eq_true rfl) ?_ | refine gi_sip (Nat.le_of_ble_eq_true rfl) ?_ | refine gi_ldc ?_ | refine gi_add ?_ | refine gi_inc rfl ?_ | refine gi_sub (by omega) ?_ | refine gi_mul ?_ | refine go_nx rfl ?_)
  refine go_step ?_
  refine g_callV (by decide) (by decide) (Nat.le_of_ble_eq_true rfl) (Nat.le_of_ble_eq_true rfl) (mSt_rcv hm) (by omega) (Nat.le_of_ble_eq_true rfl) rfl ?_
  refine sp_mwh (by omega) hm hw hv ?_
  repeat (first | refine gi_con ?_ | refine gi_bip (Nat.le_of_ble_eq_true rfl) ?_ | refine gi_sip (Nat.le_of_ble_eq_true rfl) ?_ | refine gi_ldc ?_ | refine gi_add ?_ | refine gi_inc rfl ?_ | refine gi_sub (by omega) ?_ | refine gi_mul ?_ | refine go_nx rfl ?_)
  refine go_rt rfl ?_
  unfold q_last at hq
  rw [show b + v + q_sz B v - 1 = b + (v + q_sz B v - 1) by omega]
  exact hq
/-- the places from x to p -/
def q_run (B : Nat → Nat) (p : Nat) : Nat → List Nat → Prop
  | x, [] => x = p
  | x, y :: l => y = x ∧ q_run B p (q_next B x) l
theorem q_run_snoc {p : Nat} : ∀ {l : List Nat} {x : Nat}, q_run B p x l → q_run B (q_next B p) x (l ++ [p]) := by
  intro l
  induction l with
  | nil =>
    intro x hx
    cases hx
    exact ⟨rfl, rfl⟩
  | cons y l ih =>
    intro x hx
    exact ⟨hx.1, ih hx.2⟩
theorem sp_misname {v p : Nat} {row : Bool} {prev : List Nat} (hd : 4 ≤ d) (hm : mSt h o st R) (hw : mW R b n B) (hp : p < n) (hne : q_ne B p < n) (hrun : q_run B p (v + 4) prev) (hprev : ∀ x ∈ prev, q_ok B n x ∧ x < p) (hmany : prev.length ≤ 1000) (hq : Q (some (.int (q_t (q_nm B row prev p)))) h) : mm_Go E d 120 (mm_blk 120 0) [.ref o, .int (nI (b + v)), .int (nI (b + p)), .int (nI (b + q_ne B p)), .int (q_t row), .int (nI prev.length), mm_un, mm_un] [] h Q := by
  have w2 := hw.2.1
  have hrn := hw.2.2.1
  have hnp := q_ne_is hw.2.2 (show p ≤ 2000 by omega)
  unfold q_nm at hq
  repeat (first | refine gi_con ?_ | refine gi_bip (Nat.le_of_ble_eq_true rfl) ?_ | refine gi_sip (Nat.le_of_ble_eq_true rfl) ?_ | refine gi_ldc ?_ | refine gi_add ?_ | refine gi_inc rfl ?_ | refine gi_sub (by omega) ?_ | refine gi_mul ?_ | refine go_nx rfl ?_)
  first | refine gt_eq (fun c => ?_) (fun c => ?_) | refine gt_ne (fun c => ?_) (fun c => ?_)
  · rw [if_pos c] at hq
    obtain ⟨len, hlen⟩ : ∃ len, q_ne B p = p + 1 + len := ⟨q_ne B p - (p + 1), by omega⟩
    rw [hlen, q_dec_fw B (p + 1) len _ _ (by omega) hmany] at hq
    have loop : ∀ (k i v6 : Nat), k + i = len → v6 ≤ 100000 → (q_fw B len (p + 1) 0 = q_fw B k (p + 1 + i) v6) → mm_Go E d 120 (mm_blk 120 5) [.ref o, .int (nI (b + v)), .int (nI (b + p)), .int (nI (b + q_ne B p)), .int (q_t row), .int (nI prev.length), .int (nI v6), .int (nI (b + (p + 1 + i)))] [] h Q := by
      intro k
      induction k with
      | zero =>
        intro i v6 hk hv6 hf
        rw [hf] at hq
        have hq : Q (some (.int (q_t (decide (0 < len) && decide (v6 = prev.length) && (decide (len = 1) || !decide (B (p + 1) = 48)))))) h := hq
        have ten : (decide (0 < len) && decide (v6 = prev.length) && (decide (len = 1) || !decide (B (p + 1) = 48))) = false → mm_Go E d 120 (mm_blk 120 10) [.ref o, .int (nI (b + v)), .int (nI (b + p)), .int (nI (b + q_ne B p)), .int (q_t row), .int (nI prev.length), .int (nI v6), .int (nI (b + (p + 1 + i)))] [] h Q := by
          intro e
          rw [e] at hq
          repeat (first | refine gi_con ?_ | refine gi_bip (Nat.le_of_ble_eq_true rfl) ?_ | refine gi_sip (Nat.le_of_ble_eq_true rfl) ?_ | refine gi_ldc ?_ | refine gi_add ?_ | refine gi_inc rfl ?_ | refine gi_sub (by omega) ?_ | refine gi_mul ?_ | refine go_nx rfl ?_)
          refine go_jp rfl ?_
          refine go_rt rfl ?_
          exact hq
        have nine : (decide (0 < len) && decide (v6 = prev.length) && (decide (len = 1) || !decide (B (p + 1) = 48))) = true → mm_Go E d 120 (mm_blk 120 9) [.ref o, .int (nI (b + v)), .int (nI (b + p)), .int (nI (b + q_ne B p)), .int (q_t row), .int (nI prev.length), .int (nI v6), .int (nI (b + (p + 1 + i)))] [] h Q := by
          intro e
          rw [e] at hq
          repeat (first | refine gi_con ?_ | refine gi_bip (Nat.le_of_ble_eq_true rfl) ?_ | refine gi_sip (Nat.le_of_ble_eq_true rfl) ?_ | refine gi_ldc ?_ | refine gi_add ?_ | refine gi_inc rfl ?_ | refine gi_sub (by omega) ?_ | refine gi_mul ?_ | refine go_nx rfl ?_)
          refine go_jp rfl ?_
          refine go_rt rfl ?_
          exact hq
        repeat (first | refine gi_con ?_ | refine gi_bip (Nat.le_of_ble_eq_true rfl) ?_ | refine gi_sip (Nat.le_of_ble_eq_true rfl) ?_ | refine gi_ldc ?_ | refine gi_add ?_ | refine gi_inc rfl ?_ | refine gi_sub (by omega) ?_ | refine gi_mul ?_ | refine go_nx rfl ?_)
        first | refine gb_lt (by omega) (by omega) (fun c1 => ?_) (fun c1 => ?_) | refine gb_ge (by omega) (by omega) (fun c1 => ?_) (fun c1 => ?_) | refine gb_gt (by omega) (by omega) (fun c1 => ?_) (fun c1 => ?_) | refine gb_le (by omega) (by omega) (fun c1 => ?_) (fun c1 => ?_) | refine gb_eq (by omega) (by omega) (fun c1 => ?_) (fun c1 => ?_) | refine gb_ne (by omega) (by omega) (fun c1 => ?_) (fun c1 => ?_)
        · repeat (first | refine gi_con ?_ | refine gi_bip (Nat.le_of_ble_eq_true rfl) ?_ | refine gi_sip (Nat.le_of_ble_eq_true rfl) ?_ | refine gi_ldc ?_ | refine gi_add ?_ | refine gi_inc rfl ?_ | refine gi_sub (by omega) ?_ | refine gi_mul ?_ | refine go_nx rfl ?_)
          first | refine gb_lt (by omega) (by omega) (fun c2 => ?_) (fun c2 => ?_) | refine gb_ge (by omega) (by omega) (fun c2 => ?_) (fun c2 => ?_) | refine gb_gt (by omega) (by omega) (fun c2 => ?_) (fun c2 => ?_) | refine gb_le (by omega) (by omega) (fun c2 => ?_) (fun c2 => ?_) | refine gb_eq (by omega) (by omega) (fun c2 => ?_) (fun c2 => ?_) | refine gb_ne (by omega) (by omega) (fun c2 => ?_) (fun c2 => ?_)
          · exact ten (by rw [decide_eq_false (by omega)]; rfl)
          repeat (first | refine gi_con ?_ | refine gi_bip (Nat.le_of_ble_eq_true rfl) ?_ | refine gi_sip (Nat.le_of_ble_eq_true rfl) ?_ | refine gi_ldc ?_ | refine gi_add ?_ | refine gi_inc rfl ?_ | refine gi_sub (by omega) ?_ | refine gi_mul ?_ | refine go_nx rfl ?_)
          first | refine gb_lt (by omega) (by omega) (fun c3 => ?_) (fun c3 => ?_) | refine gb_ge (by omega) (by omega) (fun c3 => ?_) (fun c3 => ?_) | refine gb_gt (by omega) (by omega) (fun c3 => ?_) (fun c3 => ?_) | refine gb_le (by omega) (by omega) (fun c3 => ?_) (fun c3 => ?_) | refine gb_eq (by omega) (by omega) (fun c3 => ?_) (fun c3 => ?_) | refine gb_ne (by omega) (by omega) (fun c3 => ?_) (fun c3 => ?_)
          · exact ten (by rw [decide_eq_false (show ¬ v6 = prev.length from c3), Bool.and_false]; rfl)
          repeat (first | refine gi_con ?_ | refine gi_bip (Nat.le_of_ble_eq_true rfl) ?_ | refine gi_sip (Nat.le_of_ble_eq_true rfl) ?_ | refine gi_ldc ?_ | refine gi_add ?_ | refine gi_inc rfl ?_ | refine gi_sub (by omega) ?_ | refine gi_mul ?_ | refine go_nx rfl ?_)
          first | refine gb_lt (by omega) (by omega) (fun c4 => ?_) (fun c4 => ?_) | refine gb_ge (by omega) (by omega) (fun c4 => ?_) (fun c4 => ?_) | refine gb_gt (by omega) (by omega) (fun c4 => ?_) (fun c4 => ?_) | refine gb_le (by omega) (by omega) (fun c4 => ?_) (fun c4 => ?_) | refine gb_eq (by omega) (by omega) (fun c4 => ?_) (fun c4 => ?_) | refine gb_ne (by omega) (by omega) (fun c4 => ?_) (fun c4 => ?_)
          · exact nine (by rw [decide_eq_true (by omega), decide_eq_true (show v6 = prev.length from c3), decide_eq_true (show len = 1 by omega)]; rfl)
          repeat (first | refine gi_con ?_ | refine gi_bip (Nat.le_of_ble_eq_true rfl) ?_ | refine gi_sip (Nat.le_of_ble_eq_true rfl) ?_ | refine gi_ldc ?_ | refine gi_add ?_ | refine gi_inc rfl ?_ | refine gi_sub (by omega) ?_ | refine gi_mul ?_ | refine go_nx rfl ?_)
          refine go_step ?_
          refine g_callV (by decide) (by decide) (Nat.le_of_ble_eq_true rfl) (Nat.le_of_ble_eq_true rfl) (mSt_rcv hm) (by omega) (Nat.le_of_ble_eq_true rfl) rfl ?_
          rw [Nat.add_assoc]
          refine sp_mat2 hm hw (by omega) ?_
          have := hw.2.2.2.1 (p + 1)
          repeat (first | refine gi_con ?_ | refine gi_bip (Nat.le_of_ble_eq_true rfl) ?_ | refine gi_sip (Nat.le_of_ble_eq_true rfl) ?_ | refine gi_ldc ?_ | refine gi_add ?_ | refine gi_inc rfl ?_ | refine gi_sub (by omega) ?_ | refine gi_mul ?_ | refine go_nx rfl ?_)
          first | refine gb_lt (by omega) (by omega) (fun c5 => ?_) (fun c5 => ?_) | refine gb_ge (by omega) (by omega) (fun c5 => ?_) (fun c5 => ?_) | refine gb_gt (by omega) (by omega) (fun c5 => ?_) (fun c5 => ?_) | refine gb_le (by omega) (by omega) (fun c5 => ?_) (fun c5 => ?_) | refine gb_eq (by omega) (by omega) (fun c5 => ?_) (fun c5 => ?_) | refine gb_ne (by omega) (by omega) (fun c5 => ?_) (fun c5 => ?_)
          · exact ten (by rw [decide_eq_false (show ¬ len = 1 by omega), decide_eq_true c5]; simp)
          refine go_jp rfl ?_
          exact nine (by rw [decide_eq_true (by omega), decide_eq_true (show v6 = prev.length from c3), decide_eq_false c5]; simp)
        · omega
      | succ k ih =>
        intro i v6 hk hv6 hf
        rw [q_fw] at hf
        have hB := hw.2.2.2.1 (p + 1 + i)
        have six : (B (p + 1 + i) < 48 ∨ 57 < B (p + 1 + i) ∨ 1000 < v6) → mm_Go E d 120 (mm_blk 120 6) [.ref o, .int (nI (b + v)), .int (nI (b + p)), .int (nI (b + q_ne B p)), .int (q_t row), .int (nI prev.length), .int (nI v6), .int (nI (b + (p + 1 + i)))] [] h Q := by
          intro e
          rw [if_pos e] at hf
          rw [hf] at hq
          repeat (first | refine gi_con ?_ | refine gi_bip (Nat.le_of_ble_eq_true rfl) ?_ | refine gi_sip (Nat.le_of_ble_eq_true rfl) ?_ | refine gi_ldc ?_ | refine gi_add ?_ | refine gi_inc rfl ?_ | refine gi_sub (by omega) ?_ | refine gi_mul ?_ | refine go_nx rfl ?_)
          refine go_rt rfl ?_
          exact hq
        repeat (first | refine gi_con ?_ | refine gi_bip (Nat.le_of_ble_eq_true rfl) ?_ | refine gi_sip (Nat.le_of_ble_eq_true rfl) ?_ | refine gi_ldc ?_ | refine gi_add ?_ | refine gi_inc rfl ?_ | refine gi_sub (by omega) ?_ | refine gi_mul ?_ | refine go_nx rfl ?_)
        first | refine gb_lt (by omega) (by omega) (fun c1 => ?_) (fun c1 => ?_) | refine gb_ge (by omega) (by omega) (fun c1 => ?_) (fun c1 => ?_) | refine gb_gt (by omega) (by omega) (fun c1 => ?_) (fun c1 => ?_) | refine gb_le (by omega) (by omega) (fun c1 => ?_) (fun c1 => ?_) | refine gb_eq (by omega) (by omega) (fun c1 => ?_) (fun c1 => ?_) | refine gb_ne (by omega) (by omega) (fun c1 => ?_) (fun c1 => ?_)
        · omega
        repeat (first | refine gi_con ?_ | refine gi_bip (Nat.le_of_ble_eq_true rfl) ?_ | refine gi_sip (Nat.le_of_ble_eq_true rfl) ?_ | refine gi_ldc ?_ | refine gi_add ?_ | refine gi_inc rfl ?_ | refine gi_sub (by omega) ?_ | refine gi_mul ?_ | refine go_nx rfl ?_)
        refine go_step ?_
        refine g_callV (by decide) (by decide) (Nat.le_of_ble_eq_true rfl) (Nat.le_of_ble_eq_true rfl) (mSt_rcv hm) (by omega) (Nat.le_of_ble_eq_true rfl) rfl ?_
        refine sp_mat2 hm hw (by omega) ?_
        repeat (first | refine gi_con ?_ | refine gi_bip (Nat.le_of_ble_eq_true rfl) ?_ | refine gi_sip (Nat.le_of_ble_eq_true rfl) ?_ | refine gi_ldc ?_ | refine gi_add ?_ | refine gi_inc rfl ?_ | refine gi_sub (by omega) ?_ | refine gi_mul ?_ | refine go_nx rfl ?_)
        first | refine gb_lt (by omega) (by omega) (fun c2 => ?_) (fun c2 => ?_) | refine gb_ge (by omega) (by omega) (fun c2 => ?_) (fun c2 => ?_) | refine gb_gt (by omega) (by omega) (fun c2 => ?_) (fun c2 => ?_) | refine gb_le (by omega) (by omega) (fun c2 => ?_) (fun c2 => ?_) | refine gb_eq (by omega) (by omega) (fun c2 => ?_) (fun c2 => ?_) | refine gb_ne (by omega) (by omega) (fun c2 => ?_) (fun c2 => ?_)
        · exact six (by omega)
        repeat (first | refine gi_con ?_ | refine gi_bip (Nat.le_of_ble_eq_true rfl) ?_ | refine gi_sip (Nat.le_of_ble_eq_true rfl) ?_ | refine gi_ldc ?_ | refine gi_add ?_ | refine gi_inc rfl ?_ | refine gi_sub (by omega) ?_ | refine gi_mul ?_ | refine go_nx rfl ?_)
        refine go_step ?_
        refine g_callV (by decide) (by decide) (Nat.le_of_ble_eq_true rfl) (Nat.le_of_ble_eq_true rfl) (mSt_rcv hm) (by omega) (Nat.le_of_ble_eq_true rfl) rfl ?_
        refine sp_mat2 hm hw (by omega) ?_
        repeat (first | refine gi_con ?_ | refine gi_bip (Nat.le_of_ble_eq_true rfl) ?_ | refine gi_sip (Nat.le_of_ble_eq_true rfl) ?_ | refine gi_ldc ?_ | refine gi_add ?_ | refine gi_inc rfl ?_ | refine gi_sub (by omega) ?_ | refine gi_mul ?_ | refine go_nx rfl ?_)
        first | refine gb_lt (by omega) (by omega) (fun c3 => ?_) (fun c3 => ?_) | refine gb_ge (by omega) (by omega) (fun c3 => ?_) (fun c3 => ?_) | refine gb_gt (by omega) (by omega) (fun c3 => ?_) (fun c3 => ?_) | refine gb_le (by omega) (by omega) (fun c3 => ?_) (fun c3 => ?_) | refine gb_eq (by omega) (by omega) (fun c3 => ?_) (fun c3 => ?_) | refine gb_ne (by omega) (by omega) (fun c3 => ?_) (fun c3 => ?_)
        · exact six (by omega)
        repeat (first | refine gi_con ?_ | refine gi_bip (Nat.le_of_ble_eq_true rfl) ?_ | refine gi_sip (Nat.le_of_ble_eq_true rfl) ?_ | refine gi_ldc ?_ | refine gi_add ?_ | refine gi_inc rfl ?_ | refine gi_sub (by omega) ?_ | refine gi_mul ?_ | refine go_nx rfl ?_)
        first | refine gb_lt (by omega) (by omega) (fun c4 => ?_) (fun c4 => ?_) | refine gb_ge (by omega) (by omega) (fun c4 => ?_) (fun c4 => ?_) | refine gb_gt (by omega) (by omega) (fun c4 => ?_) (fun c4 => ?_) | refine gb_le (by omega) (by omega) (fun c4 => ?_) (fun c4 => ?_) | refine gb_eq (by omega) (by omega) (fun c4 => ?_) (fun c4 => ?_) | refine gb_ne (by omega) (by omega) (fun c4 => ?_) (fun c4 => ?_)
        · rw [if_neg (by omega)] at hf
          repeat (first | refine gi_con ?_ | refine gi_bip (Nat.le_of_ble_eq_true rfl) ?_ | refine gi_sip (Nat.le_of_ble_eq_true rfl) ?_ | refine gi_ldc ?_ | refine gi_add ?_ | refine gi_inc rfl ?_ | refine gi_sub (by omega) ?_ | refine gi_mul ?_ | refine go_nx rfl ?_)
          refine go_step ?_
          refine g_callV (by decide) (by decide) (Nat.le_of_ble_eq_true rfl) (Nat.le_of_ble_eq_true rfl) (mSt_rcv hm) (by omega) (Nat.le_of_ble_eq_true rfl) rfl ?_
          refine sp_mat2 hm hw (by omega) ?_
          repeat (first | refine gi_con ?_ | refine gi_bip (Nat.le_of_ble_eq_true rfl) ?_ | refine gi_sip (Nat.le_of_ble_eq_true rfl) ?_ | refine gi_ldc ?_ | refine gi_add ?_ | refine gi_inc rfl ?_ | refine gi_sub (by omega) ?_ | refine gi_mul ?_ | refine go_nx rfl ?_)
          refine go_jp rfl ?_
          exact ih (i + 1) _ (by omega) (by omega) hf
        · refine go_jp rfl ?_
          exact six (by omega)
    repeat (first | refine gi_con ?_ | refine gi_bip (Nat.le_of_ble_eq_true rfl) ?_ | refine gi_sip (Nat.le_of_ble_eq_true rfl) ?_ | refine gi_ldc ?_ | refine gi_add ?_ | refine gi_inc rfl ?_ | refine gi_sub (by omega) ?_ | refine gi_mul ?_ | refine go_nx rfl ?_)
    refine go_jp rfl ?_
    exact loop len 0 0 (by omega) (by omega) rfl
  · rw [c, if_neg (by decide)] at hq
    have loop : ∀ (l : List Nat) (x : Nat) (x7 : Value), q_run B p x l → (∀ y ∈ l, q_ok B n y ∧ y < p) → Q (some (.int (q_t (l.all (fun x => !q_same B x B p))))) h → mm_Go E d 120 (mm_blk 120 1) [.ref o, .int (nI (b + v)), .int (nI (b + p)), .int (nI (b + q_ne B p)), .int (q_t row), .int (nI prev.length), .int (nI (b + x)), x7] [] h Q := by
      intro l
      induction l with
      | nil =>
        intro x x7 hx hl hq
        cases hx
        repeat (first | refine gi_con ?_ | refine gi_bip (Nat.le_of_ble_eq_true rfl) ?_ | refine gi_sip (Nat.le_of_ble_eq_true rfl) ?_ | refine gi_ldc ?_ | refine gi_add ?_ | refine gi_inc rfl ?_ | refine gi_sub (by omega) ?_ | refine gi_mul ?_ | refine go_nx rfl ?_)
        first | refine gb_lt (by omega) (by omega) (fun c1 => ?_) (fun c1 => ?_) | refine gb_ge (by omega) (by omega) (fun c1 => ?_) (fun c1 => ?_) | refine gb_gt (by omega) (by omega) (fun c1 => ?_) (fun c1 => ?_) | refine gb_le (by omega) (by omega) (fun c1 => ?_) (fun c1 => ?_) | refine gb_eq (by omega) (by omega) (fun c1 => ?_) (fun c1 => ?_) | refine gb_ne (by omega) (by omega) (fun c1 => ?_) (fun c1 => ?_)
        · repeat (first | refine gi_con ?_ | refine gi_bip (Nat.le_of_ble_eq_true rfl) ?_ | refine gi_sip (Nat.le_of_ble_eq_true rfl) ?_ | refine gi_ldc ?_ | refine gi_add ?_ | refine gi_inc rfl ?_ | refine gi_sub (by omega) ?_ | refine gi_mul ?_ | refine go_nx rfl ?_)
          refine go_rt rfl ?_
          exact hq
        · omega
      | cons y l ih =>
        intro x x7 hx hl hq
        obtain ⟨hx1, hx2⟩ := hx
        subst hx1
        obtain ⟨hy1, hy2⟩ := hl y List.mem_cons_self
        have hny := q_ne_is hw.2.2 (show y ≤ 2000 by omega)
        have hy3 := hy1.2.1
        rw [List.all_cons] at hq
        repeat (first | refine gi_con ?_ | refine gi_bip (Nat.le_of_ble_eq_true rfl) ?_ | refine gi_sip (Nat.le_of_ble_eq_true rfl) ?_ | refine gi_ldc ?_ | refine gi_add ?_ | refine gi_inc rfl ?_ | refine gi_sub (by omega) ?_ | refine gi_mul ?_ | refine go_nx rfl ?_)
        first | refine gb_lt (by omega) (by omega) (fun c1 => ?_) (fun c1 => ?_) | refine gb_ge (by omega) (by omega) (fun c1 => ?_) (fun c1 => ?_) | refine gb_gt (by omega) (by omega) (fun c1 => ?_) (fun c1 => ?_) | refine gb_le (by omega) (by omega) (fun c1 => ?_) (fun c1 => ?_) | refine gb_eq (by omega) (by omega) (fun c1 => ?_) (fun c1 => ?_) | refine gb_ne (by omega) (by omega) (fun c1 => ?_) (fun c1 => ?_)
        · omega
        repeat (first | refine gi_con ?_ | refine gi_bip (Nat.le_of_ble_eq_true rfl) ?_ | refine gi_sip (Nat.le_of_ble_eq_true rfl) ?_ | refine gi_ldc ?_ | refine gi_add ?_ | refine gi_inc rfl ?_ | refine gi_sub (by omega) ?_ | refine gi_mul ?_ | refine go_nx rfl ?_)
        refine go_step ?_
        refine g_callV (by decide) (by decide) (Nat.le_of_ble_eq_true rfl) (Nat.le_of_ble_eq_true rfl) (mSt_rcv hm) (by omega) (Nat.le_of_ble_eq_true rfl) rfl ?_
        refine sp_malike (n := q_ne B y - (y + 1)) (m := q_ne B p - (p + 1)) (A := fun i => B (y + 1 + i)) (B := fun i => B (p + 1 + i)) hm (fun j hj => ?_) (fun j hj => ?_) ?_ ?_ (fun j hj => ?_) (fun j hj => ?_) (by omega) (by omega) ?_
        · rw [Nat.add_assoc, Nat.add_assoc, hw.1 _ (by omega), Nat.add_assoc]
        · rw [Nat.add_assoc, Nat.add_assoc, hw.1 _ (by omega), Nat.add_assoc]
        · show B (y + 1 + (q_ne B y - (y + 1))) = 0
          rw [show y + 1 + (q_ne B y - (y + 1)) = q_ne B y by omega]
          exact hny.2.1
        · show B (p + 1 + (q_ne B p - (p + 1))) = 0
          rw [show p + 1 + (q_ne B p - (p + 1)) = q_ne B p by omega]
          exact hnp.2.1
        · exact hny.2.2 _ (by omega) (by omega)
        · exact hnp.2.2 _ (by omega) (by omega)
        · repeat (first | refine gi_con ?_ | refine gi_bip (Nat.le_of_ble_eq_true rfl) ?_ | refine gi_sip (Nat.le_of_ble_eq_true rfl) ?_ | refine gi_ldc ?_ | refine gi_add ?_ | refine gi_inc rfl ?_ | refine gi_sub (by omega) ?_ | refine gi_mul ?_ | refine go_nx rfl ?_)
          first | refine gt_eq (fun c2 => ?_) (fun c2 => ?_) | refine gt_ne (fun c2 => ?_) (fun c2 => ?_)
          · rw [show q_same B y B p = false from c2, Bool.not_false, Bool.true_and] at hq
            repeat (first | refine gi_con ?_ | refine gi_bip (Nat.le_of_ble_eq_true rfl) ?_ | refine gi_sip (Nat.le_of_ble_eq_true rfl) ?_ | refine gi_ldc ?_ | refine gi_add ?_ | refine gi_inc rfl ?_ | refine gi_sub (by omega) ?_ | refine gi_mul ?_ | refine go_nx rfl ?_)
            refine go_step ?_
            refine g_callV (by decide) (by decide) (Nat.le_of_ble_eq_true rfl) (Nat.le_of_ble_eq_true rfl) (mSt_rcv hm) (by omega) (Nat.le_of_ble_eq_true rfl) rfl ?_
            refine sp_mnext (by omega) hm hw hy1 ?_
            repeat (first | refine gi_con ?_ | refine gi_bip (Nat.le_of_ble_eq_true rfl) ?_ | refine gi_sip (Nat.le_of_ble_eq_true rfl) ?_ | refine gi_ldc ?_ | refine gi_add ?_ | refine gi_inc rfl ?_ | refine gi_sub (by omega) ?_ | refine gi_mul ?_ | refine go_nx rfl ?_)
            refine go_jp rfl ?_
            exact ih _ _ hx2 (fun z hz => hl z (List.mem_cons_of_mem _ hz)) hq
          · rw [show q_same B y B p = true from c2] at hq
            repeat (first | refine gi_con ?_ | refine gi_bip (Nat.le_of_ble_eq_true rfl) ?_ | refine gi_sip (Nat.le_of_ble_eq_true rfl) ?_ | refine gi_ldc ?_ | refine gi_add ?_ | refine gi_inc rfl ?_ | refine gi_sub (by omega) ?_ | refine gi_mul ?_ | refine go_nx rfl ?_)
            refine go_rt rfl ?_
            exact hq
    repeat (first | refine gi_con ?_ | refine gi_bip (Nat.le_of_ble_eq_true rfl) ?_ | refine gi_sip (Nat.le_of_ble_eq_true rfl) ?_ | refine gi_ldc ?_ | refine gi_add ?_ | refine gi_inc rfl ?_ | refine gi_sub (by omega) ?_ | refine gi_mul ?_ | refine go_nx rfl ?_)
    refine go_jp rfl ?_
    rw [Nat.add_assoc]
    exact loop prev (v + 4) _ hrun hprev hq
end M
