/-! THE ORDER OF VALUES -/
def q_lex (r s : Int32) : Int32 := if r = 0 then s else r
def q_c64 (x y : Int64) : Int32 := if x < y then -1 else if x = y then 0 else 1
/-- the names of two elements -/
def q_nmc (B : Nat → Nat) (e : Nat) (C : Nat → Nat) (f : Nat) : Int32 := q_bytes (fun i => B (e + 1 + i)) (q_ne B e - (e + 1)) (fun i => C (f + 1 + i)) (q_ne C f - (f + 1))
def q_bxs (og : Nat → Nat → Int32) (B C : Nat → Nat) (L M : Nat) : Nat → Nat → Nat → Int32
  | 0, _, _ => 0
  | g + 1, e, f => if e < L then (if f < M then (if q_lex (q_lex (q_c3 (q_cls (B e)) (q_cls (C f))) (q_nmc B e C f)) (og e f) = 0 then q_bxs og B C L M g (q_next B e) (q_next C f) else q_lex (q_lex (q_c3 (q_cls (B e)) (q_cls (C f))) (q_nmc B e C f)) (og e f)) else 1) else if f < M then -1 else 0
def q_ord (B C : Nat → Nat) : Nat → Nat → Nat → Int32
  | 0, _, _ => 0
  | k + 1, e, f => if q_cls (B e) ≠ q_cls (C f) then q_c3 (q_cls (B e)) (q_cls (C f)) else if q_cls (B e) = 2 ∨ q_cls (B e) = 6 then q_c64 (q_num B (B e) (q_val B e)) (q_num C (C f) (q_val C f))
    else if q_cls (B e) = 3 then q_bytes (fun i => B (q_val B e + 4 + i)) (q_sz B (q_val B e) - 1) (fun i => C (q_val C f + 4 + i)) (q_sz C (q_val C f) - 1)
    else if q_cls (B e) = 4 ∨ q_cls (B e) = 5 then q_bxs (q_ord B C k) B C (q_last B (q_val B e)) (q_last C (q_val C f)) 2001 (q_val B e + 4) (q_val C f + 4) else 0
/-- an element of a right document, whose boxes go lev deep -/
def q_me (B : Nat → Nat) (n e lev : Nat) : Prop := ∃ last, last ≤ n ∧ e < last ∧ q_ne B e < last ∧ q_vok (q_box (q_u8 B) B lev) B e last = true
section ME
variable {B : Nat → Nat} {n e lev : Nat}
theorem q_me_ok (h : q_me B n e lev) : q_ok B n e := by
  obtain ⟨last, h1, h2, h3, h4⟩ := h
  have := q_vok_ok h3 h4
  exact ⟨by omega, by omega, by omega, this.2⟩
theorem q_me_at {row : Bool} {last i : Nat} (h : q_at (q_u8 B) lev B row last e i) (he : e < last) (hl : last ≤ n) : q_me B n e lev := by
  have := q_at_el h he
  exact ⟨last, hl, he, this.1, this.2.1⟩
theorem q_me_kind (h : q_me B n e lev) : B e = 16 ∨ B e = 18 ∨ B e = 8 ∨ B e = 2 ∨ B e = 10 ∨ B e = 3 ∨ B e = 4 := by
  obtain ⟨last, h1, h2, h3, h4⟩ := h
  exact q_vok_kind h4
theorem q_cls_val : q_cls 16 = 2 ∧ q_cls 18 = 2 ∧ q_cls 8 = 6 ∧ q_cls 2 = 3 ∧ q_cls 10 = 1 ∧ q_cls 3 = 4 ∧ q_cls 4 = 5 := by decide
theorem q_me_cls (h : q_me B n e lev) : (q_cls (B e) = 1 ↔ B e = 10) ∧ (q_cls (B e) = 2 ↔ B e = 16 ∨ B e = 18) ∧ (q_cls (B e) = 6 ↔ B e = 8) ∧ (q_cls (B e) = 3 ↔ B e = 2) ∧ (q_cls (B e) = 4 ↔ B e = 3) ∧ (q_cls (B e) = 5 ↔ B e = 4) ∧ 1 ≤ q_cls (B e) ∧ q_cls (B e) ≤ 6 := by
  have hk := q_me_kind h
  obtain ⟨v1, v2, v3, v4, v5, v6, v7⟩ := q_cls_val
  rcases hk with k | k | k | k | k | k | k <;> rw [k] <;> simp [v1, v2, v3, v4, v5, v6, v7]
theorem q_me_num (h : q_me B n e lev) (hc : q_cls (B e) = 2 ∨ q_cls (B e) = 6) : B e = 16 ∧ q_val B e + 4 ≤ n ∨ B e = 8 ∧ q_val B e + 1 ≤ n ∨ B e = 18 ∧ q_val B e + 8 ≤ n := by
  have hcl := q_me_cls h
  obtain ⟨last, h1, h2, h3, h4⟩ := h
  have hn := (q_vok_ok h3 h4).1
  unfold q_next q_ln at hn
  rcases hc with hc | hc
  · rcases hcl.2.1.mp hc with k | k
    · rw [if_pos k] at hn
      exact Or.inl ⟨k, by omega⟩
    · rw [if_neg (by omega), if_pos k] at hn
      exact Or.inr (Or.inr ⟨k, by omega⟩)
  · have k := hcl.2.2.1.mp hc
    rw [if_neg (by omega), if_neg (by omega), if_pos k] at hn
    exact Or.inr (Or.inl ⟨k, by omega⟩)
theorem q_me_txt (h : q_me B n e lev) (hc : B e = 2) : 1 ≤ q_sz B (q_val B e) ∧ q_val B e + 4 + q_sz B (q_val B e) ≤ n := by
  obtain ⟨last, h1, h2, h3, h4⟩ := h
  unfold q_vok at h4
  rw [if_neg (by omega), if_neg (by omega), if_neg (by omega), if_pos hc] at h4
  simp only [Bool.and_eq_true, decide_eq_true_eq] at h4
  exact ⟨h4.1.1, by omega⟩
theorem q_me_box (h : q_me B n e lev) (hc : B e = 3 ∨ B e = 4) : 1 ≤ lev ∧ q_val B e + 5 ≤ n ∧ 5 ≤ q_sz B (q_val B e) ∧ q_last B (q_val B e) < n ∧ q_at (q_u8 B) (lev - 1) B (decide (B e = 4)) (q_last B (q_val B e)) (q_val B e + 4) 0 := by
  obtain ⟨last, h1, h2, h3, h4⟩ := h
  have hb := q_at_box h4
  have hbx : q_box (q_u8 B) B lev (q_val B e) last (decide (B e = 4)) = true := by
    rcases hc with hc | hc
    · rw [decide_eq_false (by omega)]; exact hb.1 hc
    · rw [decide_eq_true hc]; exact hb.2 hc
  have hp := q_box_pos hbx
  rw [show lev = lev - 1 + 1 by omega] at hbx
  obtain ⟨g1, g2, g3, g4⟩ := q_box_at hbx
  exact ⟨hp, by omega, g2, by unfold q_last; omega, g4⟩
end ME
/-- one number, one row of digits -/
theorem q_dec_uniq {B C : Nat → Nat} {fr fr' : Nat} : ∀ (f f' to to' num : Nat), q_dec B fr f to num = true → q_dec C fr' f' to' num = true → fr ≤ to ∧ fr' ≤ to' ∧ to - fr = to' - fr' ∧ ∀ j, j < to - fr → B (fr + j) = C (fr' + j) := by
  intro f
  induction f with
  | zero => intro f' to to' num h; cases h
  | succ f ih =>
    intro f' to to' num h1 h2
    cases f' with
    | zero => cases h2
    | succ f' =>
      unfold q_dec at h1 h2
      by_cases a1 : to ≤ fr
      · rw [if_pos a1] at h1; cases h1
      by_cases a2 : to' ≤ fr'
      · rw [if_pos a2] at h2; cases h2
      rw [if_neg a1] at h1
      rw [if_neg a2] at h2
      by_cases b1 : B (to - 1) = 48 + num % 10
      · by_cases b2 : C (to' - 1) = 48 + num % 10
        · rw [if_pos b1] at h1
          rw [if_pos b2] at h2
          by_cases c : 0 < num / 10
          · rw [if_pos c] at h1 h2
            obtain ⟨e1, e2, e3, e4⟩ := ih f' _ _ _ h1 h2
            refine ⟨by omega, by omega, by omega, fun j hj => ?_⟩
            by_cases hj2 : j = to - 1 - fr
            · rw [hj2, show fr + (to - 1 - fr) = to - 1 by omega, show fr' + (to - 1 - fr) = to' - 1 by omega, b1, b2]
            · exact e4 j (by omega)
          · rw [if_neg c] at h1 h2
            have e1 := of_decide_eq_true h1
            have e2 := of_decide_eq_true h2
            refine ⟨by omega, by omega, by omega, fun j hj => ?_⟩
            have : j = 0 := by omega
            subst this
            rw [show fr + 0 = to - 1 by omega, show fr' + 0 = to' - 1 by omega, b1, b2]
        · rw [if_neg b2] at h2; cases h2
      · rw [if_neg b1] at h1; cases h1
theorem q_nmc_row {B C : Nat → Nat} {e f i : Nat} (h1 : q_dec B (e + 1) (q_ne B e + 1) (q_ne B e) i = true) (h2 : q_dec C (f + 1) (q_ne C f + 1) (q_ne C f) i = true) : q_nmc B e C f = 0 := by
  obtain ⟨-, -, e3, e4⟩ := q_dec_uniq _ _ _ _ _ h1 h2
  exact q_bytes_0.mpr ⟨e3, e4⟩
section GX
variable {E : mmE} {d m pc : Nat} {is : List mmI} {L S : List Value} {h : mmH} {Q : Option Value → mmH → Prop} {ex : List Nat} {off : Int} {x : Int32}
theorem gx_eq (h1 : x = 0 → mm_Go E d m (mm_blk m (mm_k0 ex)) L S h Q) (h2 : x ≠ 0 → mm_Go E d m is L S h Q) : mm_Go E d m ((pc, .ifCond .eq off, ex) :: is) L (.int x :: S) h Q := go_br (c := decide (x = 0)) rfl (fun c => h1 (of_decide_eq_true c)) (fun c => h2 (of_decide_eq_false c))
theorem gx_ne (h1 : x ≠ 0 → mm_Go E d m (mm_blk m (mm_k0 ex)) L S h Q) (h2 : x = 0 → mm_Go E d m is L S h Q) : mm_Go E d m ((pc, .ifCond .ne off, ex) :: is) L (.int x :: S) h Q := go_br (c := decide (¬ x = 0)) rfl (fun c => h1 (of_decide_eq_true c)) (fun c => h2 (Classical.not_not.mp (of_decide_eq_false c)))
theorem gl_ge {x y : Int64} (h1 : y ≤ x → mm_Go E d m (mm_blk m (mm_k0 ex)) L S h Q) (h2 : x < y → mm_Go E d m is L S h Q) : mm_Go E d m ((pc, .ifCond .ge off, ex) :: is) L (.int (lg_cmp x y) :: S) h Q :=
  go_br (c := decide (0 ≤ lg_cmp x y)) rfl (fun c => h1 ((lg_cmp_ge x y).mp (of_decide_eq_true c))) (fun c => h2 (by
    have c1 := of_decide_eq_false c
    rw [lg_cmp_ge] at c1
    exact Int64.not_le.mp c1))
end GX
section M
variable {E : mmE} {d : Nat} {h : mmH} {Q : Option Value → mmH → Prop} {o st : Nat} {R : Nat → Nat}
theorem sp_mcls {kd : Nat} (hk : kd = 16 ∨ kd = 18 ∨ kd = 8 ∨ kd = 2 ∨ kd = 10 ∨ kd = 3 ∨ kd = 4) (hq : Q (some (.int (nI (q_cls kd)))) h) : mm_Go E d 154 (mm_blk 154 0) [.int (nI kd)] [] h Q := by
  obtain ⟨v1, v2, v3, v4, v5, v6, v7⟩ := q_cls_val
  have two : kd = 16 ∨ kd = 18 → mm_Go E d 154 (mm_blk 154 2) [.int (nI kd)] [] h Q := by
    intro k
    have : q_cls kd = 2 := by rcases k with k | k <;> rw [k] <;> assumption
    rw [this] at hq
    repeat (first | refine gi_con ?_ | refine gi_bip (Nat.le_of_ble_eq_true rfl) ?_ | refine gi_sip (Nat.le_of_ble_eq_true rfl) ?_ | refine gi_ldc ?_ | refine gi_add ?_ | refine gi_inc rfl ?_ | refine gi_sub (by omega) ?_ | refine gi_mul ?_ | refine go_nx rfl ?_)
    refine go_jp rfl ?_
    refine go_rt rfl ?_
    exact hq
  repeat (first | refine gi_con ?_ | refine gi_bip (Nat.le_of_ble_eq_true rfl) ?_ | refine gi_sip (Nat.le_of_ble_eq_true rfl) ?_ | refine gi_ldc ?_ | refine gi_add ?_ | refine gi_inc rfl ?_ | refine gi_sub (by omega) ?_ | refine gi_mul ?_ | refine go_nx rfl ?_)
  first | refine gb_lt (by omega) (by omega) (fun c1 => ?_) (fun c1 => ?_) | refine gb_ge (by omega) (by omega) (fun c1 => ?_) (fun c1 => ?_) | refine gb_gt (by omega) (by omega) (fun c1 => ?_) (fun c1 => ?_) | refine gb_le (by omega) (by omega) (fun c1 => ?_) (fun c1 => ?_) | refine gb_eq (by omega) (by omega) (fun c1 => ?_) (fun c1 => ?_) | refine gb_ne (by omega) (by omega) (fun c1 => ?_) (fun c1 => ?_)
  · repeat (first | refine gi_con ?_ | refine gi_bip (Nat.le_of_ble_eq_true rfl) ?_ | refine gi_sip (Nat.le_of_ble_eq_true rfl) ?_ | refine gi_ldc ?_ | refine gi_add ?_ | refine gi_inc rfl ?_ | refine gi_sub (by omega) ?_ | refine gi_mul ?_ | refine go_nx rfl ?_)
    first | refine gb_lt (by omega) (by omega) (fun c2 => ?_) (fun c2 => ?_) | refine gb_ge (by omega) (by omega) (fun c2 => ?_) (fun c2 => ?_) | refine gb_gt (by omega) (by omega) (fun c2 => ?_) (fun c2 => ?_) | refine gb_le (by omega) (by omega) (fun c2 => ?_) (fun c2 => ?_) | refine gb_eq (by omega) (by omega) (fun c2 => ?_) (fun c2 => ?_) | refine gb_ne (by omega) (by omega) (fun c2 => ?_) (fun c2 => ?_)
    · exact two (Or.inl c2)
    repeat (first | refine gi_con ?_ | refine gi_bip (Nat.le_of_ble_eq_true rfl) ?_ | refine gi_sip (Nat.le_of_ble_eq_true rfl) ?_ | refine gi_ldc ?_ | refine gi_add ?_ | refine gi_inc rfl ?_ | refine gi_sub (by omega) ?_ | refine gi_mul ?_ | refine go_nx rfl ?_)
    first | refine gb_lt (by omega) (by omega) (fun c3 => ?_) (fun c3 => ?_) | refine gb_ge (by omega) (by omega) (fun c3 => ?_) (fun c3 => ?_) | refine gb_gt (by omega) (by omega) (fun c3 => ?_) (fun c3 => ?_) | refine gb_le (by omega) (by omega) (fun c3 => ?_) (fun c3 => ?_) | refine gb_eq (by omega) (by omega) (fun c3 => ?_) (fun c3 => ?_) | refine gb_ne (by omega) (by omega) (fun c3 => ?_) (fun c3 => ?_)
    · repeat (first | refine gi_con ?_ | refine gi_bip (Nat.le_of_ble_eq_true rfl) ?_ | refine gi_sip (Nat.le_of_ble_eq_true rfl) ?_ | refine gi_ldc ?_ | refine gi_add ?_ | refine gi_inc rfl ?_ | refine gi_sub (by omega) ?_ | refine gi_mul ?_ | refine go_nx rfl ?_)
      first | refine gb_lt (by omega) (by omega) (fun c4 => ?_) (fun c4 => ?_) | refine gb_ge (by omega) (by omega) (fun c4 => ?_) (fun c4 => ?_) | refine gb_gt (by omega) (by omega) (fun c4 => ?_) (fun c4 => ?_) | refine gb_le (by omega) (by omega) (fun c4 => ?_) (fun c4 => ?_) | refine gb_eq (by omega) (by omega) (fun c4 => ?_) (fun c4 => ?_) | refine gb_ne (by omega) (by omega) (fun c4 => ?_) (fun c4 => ?_)
      · repeat (first | refine gi_con ?_ | refine gi_bip (Nat.le_of_ble_eq_true rfl) ?_ | refine gi_sip (Nat.le_of_ble_eq_true rfl) ?_ | refine gi_ldc ?_ | refine gi_add ?_ | refine gi_inc rfl ?_ | refine gi_sub (by omega) ?_ | refine gi_mul ?_ | refine go_nx rfl ?_)
        first | refine gb_lt (by omega) (by omega) (fun c5 => ?_) (fun c5 => ?_) | refine gb_ge (by omega) (by omega) (fun c5 => ?_) (fun c5 => ?_) | refine gb_gt (by omega) (by omega) (fun c5 => ?_) (fun c5 => ?_) | refine gb_le (by omega) (by omega) (fun c5 => ?_) (fun c5 => ?_) | refine gb_eq (by omega) (by omega) (fun c5 => ?_) (fun c5 => ?_) | refine gb_ne (by omega) (by omega) (fun c5 => ?_) (fun c5 => ?_)
        · repeat (first | refine gi_con ?_ | refine gi_bip (Nat.le_of_ble_eq_true rfl) ?_ | refine gi_sip (Nat.le_of_ble_eq_true rfl) ?_ | refine gi_ldc ?_ | refine gi_add ?_ | refine gi_inc rfl ?_ | refine gi_sub (by omega) ?_ | refine gi_mul ?_ | refine go_nx rfl ?_)
          first | refine gb_lt (by omega) (by omega) (fun c6 => ?_) (fun c6 => ?_) | refine gb_ge (by omega) (by omega) (fun c6 => ?_) (fun c6 => ?_) | refine gb_gt (by omega) (by omega) (fun c6 => ?_) (fun c6 => ?_) | refine gb_le (by omega) (by omega) (fun c6 => ?_) (fun c6 => ?_) | refine gb_eq (by omega) (by omega) (fun c6 => ?_) (fun c6 => ?_) | refine gb_ne (by omega) (by omega) (fun c6 => ?_) (fun c6 => ?_)
          · have : kd = 8 := by omega
            rw [this, v3] at hq
            repeat (first | refine gi_con ?_ | refine gi_bip (Nat.le_of_ble_eq_true rfl) ?_ | refine gi_sip (Nat.le_of_ble_eq_true rfl) ?_ | refine gi_ldc ?_ | refine gi_add ?_ | refine gi_inc rfl ?_ | refine gi_sub (by omega) ?_ | refine gi_mul ?_ | refine go_nx rfl ?_)
            refine go_jp rfl ?_
            refine go_rt rfl ?_
            exact hq
          · rw [c6, v7] at hq
            repeat (first | refine gi_con ?_ | refine gi_bip (Nat.le_of_ble_eq_true rfl) ?_ | refine gi_sip (Nat.le_of_ble_eq_true rfl) ?_ | refine gi_ldc ?_ | refine gi_add ?_ | refine gi_inc rfl ?_ | refine gi_sub (by omega) ?_ | refine gi_mul ?_ | refine go_nx rfl ?_)
            refine go_jp rfl ?_
            refine go_rt rfl ?_
            exact hq
        · rw [c5, v6] at hq
          repeat (first | refine gi_con ?_ | refine gi_bip (Nat.le_of_ble_eq_true rfl) ?_ | refine gi_sip (Nat.le_of_ble_eq_true rfl) ?_ | refine gi_ldc ?_ | refine gi_add ?_ | refine gi_inc rfl ?_ | refine gi_sub (by omega) ?_ | refine gi_mul ?_ | refine go_nx rfl ?_)
          refine go_jp rfl ?_
          refine go_rt rfl ?_
          exact hq
      · rw [c4, v4] at hq
        repeat (first | refine gi_con ?_ | refine gi_bip (Nat.le_of_ble_eq_true rfl) ?_ | refine gi_sip (Nat.le_of_ble_eq_true rfl) ?_ | refine gi_ldc ?_ | refine gi_add ?_ | refine gi_inc rfl ?_ | refine gi_sub (by omega) ?_ | refine gi_mul ?_ | refine go_nx rfl ?_)
        refine go_jp rfl ?_
        refine go_rt rfl ?_
        exact hq
    · refine go_jp rfl ?_
      exact two (Or.inr c3)
  · rw [c1, v5] at hq
    repeat (first | refine gi_con ?_ | refine gi_bip (Nat.le_of_ble_eq_true rfl) ?_ | refine gi_sip (Nat.le_of_ble_eq_true rfl) ?_ | refine gi_ldc ?_ | refine gi_add ?_ | refine gi_inc rfl ?_ | refine gi_sub (by omega) ?_ | refine gi_mul ?_ | refine go_nx rfl ?_)
    refine go_jp rfl ?_
    refine go_rt rfl ?_
    exact hq
theorem sp_mbytes {a n b m : Nat} {A B : Nat → Nat} (hd : 1 ≤ d) (hm : mSt h o st R) (ha : ∀ j, j < n → R (a + j) = A j) (hb : ∀ j, j < m → R (b + j) = B j) (hA : ∀ j, A j < 256) (hB : ∀ j, B j < 256) (h1 : a + n ≤ 22100) (h2 : b + m ≤ 22100) (hq : Q (some (.int (q_bytes A n B m))) h) : mm_Go E d 155 (mm_blk 155 0) [.ref o, .int (nI a), .int (nI n), .int (nI b), .int (nI m), mm_un] [] h Q := by
  have five : ∀ x5 : Value, Q (some (.int (q_c3 n m))) h → mm_Go E d 155 (mm_blk 155 5) [.ref o, .int (nI a), .int (nI n), .int (nI b), .int (nI m), x5] [] h Q := by
    intro x5 hq
    unfold q_c3 at hq
    repeat (first | refine gi_con ?_ | refine gi_bip (Nat.le_of_ble_eq_true rfl) ?_ | refine gi_sip (Nat.le_of_ble_eq_true rfl) ?_ | refine gi_ldc ?_ | refine gi_add ?_ | refine gi_inc rfl ?_ | refine gi_sub (by omega) ?_ | refine gi_mul ?_ | refine go_nx rfl ?_)
    first | refine gb_lt (by omega) (by omega) (fun c1 => ?_) (fun c1 => ?_) | refine gb_ge (by omega) (by omega) (fun c1 => ?_) (fun c1 => ?_) | refine gb_gt (by omega) (by omega) (fun c1 => ?_) (fun c1 => ?_) | refine gb_le (by omega) (by omega) (fun c1 => ?_) (fun c1 => ?_) | refine gb_eq (by omega) (by omega) (fun c1 => ?_) (fun c1 => ?_) | refine gb_ne (by omega) (by omega) (fun c1 => ?_) (fun c1 => ?_)
    · rw [if_neg (by omega)] at hq
      repeat (first | refine gi_con ?_ | refine gi_bip (Nat.le_of_ble_eq_true rfl) ?_ | refine gi_sip (Nat.le_of_ble_eq_true rfl) ?_ | refine gi_ldc ?_ | refine gi_add ?_ | refine gi_inc rfl ?_ | refine gi_sub (by omega) ?_ | refine gi_mul ?_ | refine go_nx rfl ?_)
      first | refine gb_lt (by omega) (by omega) (fun c2 => ?_) (fun c2 => ?_) | refine gb_ge (by omega) (by omega) (fun c2 => ?_) (fun c2 => ?_) | refine gb_gt (by omega) (by omega) (fun c2 => ?_) (fun c2 => ?_) | refine gb_le (by omega) (by omega) (fun c2 => ?_) (fun c2 => ?_) | refine gb_eq (by omega) (by omega) (fun c2 => ?_) (fun c2 => ?_) | refine gb_ne (by omega) (by omega) (fun c2 => ?_) (fun c2 => ?_)
      · rw [if_pos (by omega)] at hq
        repeat (first | refine gi_con ?_ | refine gi_bip (Nat.le_of_ble_eq_true rfl) ?_ | refine gi_sip (Nat.le_of_ble_eq_true rfl) ?_ | refine gi_ldc ?_ | refine gi_add ?_ | refine gi_inc rfl ?_ | refine gi_sub (by omega) ?_ | refine gi_mul ?_ | refine go_nx rfl ?_)
        refine go_jp rfl ?_
        refine go_rt rfl ?_
        exact hq
      · rw [if_neg (by omega)] at hq
        repeat (first | refine gi_con ?_ | refine gi_bip (Nat.le_of_ble_eq_true rfl) ?_ | refine gi_sip (Nat.le_of_ble_eq_true rfl) ?_ | refine gi_ldc ?_ | refine gi_add ?_ | refine gi_inc rfl ?_ | refine gi_sub (by omega) ?_ | refine gi_mul ?_ | refine go_nx rfl ?_)
        refine go_jp rfl ?_
        refine go_rt rfl ?_
        exact hq
    · rw [if_pos c1] at hq
      repeat (first | refine gi_con ?_ | refine gi_bip (Nat.le_of_ble_eq_true rfl) ?_ | refine gi_sip (Nat.le_of_ble_eq_true rfl) ?_ | refine gi_ldc ?_ | refine gi_add ?_ | refine gi_inc rfl ?_ | refine gi_sub (by omega) ?_ | refine gi_mul ?_ | refine go_nx rfl ?_)
      refine go_jp rfl ?_
      refine go_rt rfl ?_
      exact hq
  have loop : ∀ (k i : Nat), k + i = min n m → Q (some (.int (q_by A B n m k i))) h → mm_Go E d 155 (mm_blk 155 1) [.ref o, .int (nI a), .int (nI n), .int (nI b), .int (nI m), .int (nI i)] [] h Q := by
    intro k
    induction k with
    | zero =>
      intro i hk hq
      repeat (first | refine gi_con ?_ | refine gi_bip (Nat.le_of_ble_eq_true rfl) ?_ | refine gi_sip (Nat.le_of_ble_eq_true rfl) ?_ | refine gi_ldc ?_ | refine gi_add ?_ | refine gi_inc rfl ?_ | refine gi_sub (by omega) ?_ | refine gi_mul ?_ | refine go_nx rfl ?_)
      first | refine gb_lt (by omega) (by omega) (fun c1 => ?_) (fun c1 => ?_) | refine gb_ge (by omega) (by omega) (fun c1 => ?_) (fun c1 => ?_) | refine gb_gt (by omega) (by omega) (fun c1 => ?_) (fun c1 => ?_) | refine gb_le (by omega) (by omega) (fun c1 => ?_) (fun c1 => ?_) | refine gb_eq (by omega) (by omega) (fun c1 => ?_) (fun c1 => ?_) | refine gb_ne (by omega) (by omega) (fun c1 => ?_) (fun c1 => ?_)
      · exact five _ hq
      repeat (first | refine gi_con ?_ | refine gi_bip (Nat.le_of_ble_eq_true rfl) ?_ | refine gi_sip (Nat.le_of_ble_eq_true rfl) ?_ | refine gi_ldc ?_ | refine gi_add ?_ | refine gi_inc rfl ?_ | refine gi_sub (by omega) ?_ | refine gi_mul ?_ | refine go_nx rfl ?_)
      first | refine gb_lt (by omega) (by omega) (fun c2 => ?_) (fun c2 => ?_) | refine gb_ge (by omega) (by omega) (fun c2 => ?_) (fun c2 => ?_) | refine gb_gt (by omega) (by omega) (fun c2 => ?_) (fun c2 => ?_) | refine gb_le (by omega) (by omega) (fun c2 => ?_) (fun c2 => ?_) | refine gb_eq (by omega) (by omega) (fun c2 => ?_) (fun c2 => ?_) | refine gb_ne (by omega) (by omega) (fun c2 => ?_) (fun c2 => ?_)
      · exact five _ hq
      · omega
    | succ k ih =>
      intro i hk hq
      unfold q_by at hq
      have e1 := hA i
      have e2 := hB i
      repeat (first | refine gi_con ?_ | refine gi_bip (Nat.le_of_ble_eq_true rfl) ?_ | refine gi_sip (Nat.le_of_ble_eq_true rfl) ?_ | refine gi_ldc ?_ | refine gi_add ?_ | refine gi_inc rfl ?_ | refine gi_sub (by omega) ?_ | refine gi_mul ?_ | refine go_nx rfl ?_)
      first | refine gb_lt (by omega) (by omega) (fun c1 => ?_) (fun c1 => ?_) | refine gb_ge (by omega) (by omega) (fun c1 => ?_) (fun c1 => ?_) | refine gb_gt (by omega) (by omega) (fun c1 => ?_) (fun c1 => ?_) | refine gb_le (by omega) (by omega) (fun c1 => ?_) (fun c1 => ?_) | refine gb_eq (by omega) (by omega) (fun c1 => ?_) (fun c1 => ?_) | refine gb_ne (by omega) (by omega) (fun c1 => ?_) (fun c1 => ?_)
      · omega
      repeat (first | refine gi_con ?_ | refine gi_bip (Nat.le_of_ble_eq_true rfl) ?_ | refine gi_sip (Nat.le_of_ble_eq_true rfl) ?_ | refine gi_ldc ?_ | refine gi_add ?_ | refine gi_inc rfl ?_ | refine gi_sub (by omega) ?_ | refine gi_mul ?_ | refine go_nx rfl ?_)
      first | refine gb_lt (by omega) (by omega) (fun c2 => ?_) (fun c2 => ?_) | refine gb_ge (by omega) (by omega) (fun c2 => ?_) (fun c2 => ?_) | refine gb_gt (by omega) (by omega) (fun c2 => ?_) (fun c2 => ?_) | refine gb_le (by omega) (by omega) (fun c2 => ?_) (fun c2 => ?_) | refine gb_eq (by omega) (by omega) (fun c2 => ?_) (fun c2 => ?_) | refine gb_ne (by omega) (by omega) (fun c2 => ?_) (fun c2 => ?_)
      · omega
      repeat (first | refine gi_con ?_ | refine gi_bip (Nat.le_of_ble_eq_true rfl) ?_ | refine gi_sip (Nat.le_of_ble_eq_true rfl) ?_ | refine gi_ldc ?_ | refine gi_add ?_ | refine gi_inc rfl ?_ | refine gi_sub (by omega) ?_ | refine gi_mul ?_ | refine go_nx rfl ?_)
      refine go_step ?_
      refine g_callV (by decide) (by decide) (Nat.le_of_ble_eq_true rfl) (Nat.le_of_ble_eq_true rfl) (mSt_rcv hm) (by omega) (Nat.le_of_ble_eq_true rfl) rfl ?_
      refine sp_mat hm (by omega) ?_
      rw [ha i (by omega)]
      repeat (first | refine gi_con ?_ | refine gi_bip (Nat.le_of_ble_eq_true rfl) ?_ | refine gi_sip (Nat.le_of_ble_eq_true rfl) ?_ | refine gi_ldc ?_ | refine gi_add ?_ | refine gi_inc rfl ?_ | refine gi_sub (by omega) ?_ | refine gi_mul ?_ | refine go_nx rfl ?_)
      refine go_step ?_
      refine g_callV (by decide) (by decide) (Nat.le_of_ble_eq_true rfl) (Nat.le_of_ble_eq_true rfl) (mSt_rcv hm) (by omega) (Nat.le_of_ble_eq_true rfl) rfl ?_
      refine sp_mat hm (by omega) ?_
      rw [hb i (by omega)]
      repeat (first | refine gi_con ?_ | refine gi_bip (Nat.le_of_ble_eq_true rfl) ?_ | refine gi_sip (Nat.le_of_ble_eq_true rfl) ?_ | refine gi_ldc ?_ | refine gi_add ?_ | refine gi_inc rfl ?_ | refine gi_sub (by omega) ?_ | refine gi_mul ?_ | refine go_nx rfl ?_)
      first | refine gb_lt (by omega) (by omega) (fun c3 => ?_) (fun c3 => ?_) | refine gb_ge (by omega) (by omega) (fun c3 => ?_) (fun c3 => ?_) | refine gb_gt (by omega) (by omega) (fun c3 => ?_) (fun c3 => ?_) | refine gb_le (by omega) (by omega) (fun c3 => ?_) (fun c3 => ?_) | refine gb_eq (by omega) (by omega) (fun c3 => ?_) (fun c3 => ?_) | refine gb_ne (by omega) (by omega) (fun c3 => ?_) (fun c3 => ?_)
      · rw [if_pos c3] at hq
        repeat (first | refine gi_con ?_ | refine gi_bip (Nat.le_of_ble_eq_true rfl) ?_ | refine gi_sip (Nat.le_of_ble_eq_true rfl) ?_ | refine gi_ldc ?_ | refine gi_add ?_ | refine gi_inc rfl ?_ | refine gi_sub (by omega) ?_ | refine gi_mul ?_ | refine go_nx rfl ?_)
        refine go_jp rfl ?_
        exact ih (i + 1) (by omega) hq
      · rw [if_neg c3] at hq
        unfold q_c3 at hq
        repeat (first | refine gi_con ?_ | refine gi_bip (Nat.le_of_ble_eq_true rfl) ?_ | refine gi_sip (Nat.le_of_ble_eq_true rfl) ?_ | refine gi_ldc ?_ | refine gi_add ?_ | refine gi_inc rfl ?_ | refine gi_sub (by omega) ?_ | refine gi_mul ?_ | refine go_nx rfl ?_)
        refine go_step ?_
        refine g_callV (by decide) (by decide) (Nat.le_of_ble_eq_true rfl) (Nat.le_of_ble_eq_true rfl) (mSt_rcv hm) (by omega) (Nat.le_of_ble_eq_true rfl) rfl ?_
        refine sp_mat hm (by omega) ?_
        rw [ha i (by omega)]
        repeat (first | refine gi_con ?_ | refine gi_bip (Nat.le_of_ble_eq_true rfl) ?_ | refine gi_sip (Nat.le_of_ble_eq_true rfl) ?_ | refine gi_ldc ?_ | refine gi_add ?_ | refine gi_inc rfl ?_ | refine gi_sub (by omega) ?_ | refine gi_mul ?_ | refine go_nx rfl ?_)
        refine go_step ?_
        refine g_callV (by decide) (by decide) (Nat.le_of_ble_eq_true rfl) (Nat.le_of_ble_eq_true rfl) (mSt_rcv hm) (by omega) (Nat.le_of_ble_eq_true rfl) rfl ?_
        refine sp_mat hm (by omega) ?_
        rw [hb i (by omega)]
        repeat (first | refine gi_con ?_ | refine gi_bip (Nat.le_of_ble_eq_true rfl) ?_ | refine gi_sip (Nat.le_of_ble_eq_true rfl) ?_ | refine gi_ldc ?_ | refine gi_add ?_ | refine gi_inc rfl ?_ | refine gi_sub (by omega) ?_ | refine gi_mul ?_ | refine go_nx rfl ?_)
        first | refine gb_lt (by omega) (by omega) (fun c4 => ?_) (fun c4 => ?_) | refine gb_ge (by omega) (by omega) (fun c4 => ?_) (fun c4 => ?_) | refine gb_gt (by omega) (by omega) (fun c4 => ?_) (fun c4 => ?_) | refine gb_le (by omega) (by omega) (fun c4 => ?_) (fun c4 => ?_) | refine gb_eq (by omega) (by omega) (fun c4 => ?_) (fun c4 => ?_) | refine gb_ne (by omega) (by omega) (fun c4 => ?_) (fun c4 => ?_)
        · rw [if_neg (by omega), if_neg c3] at hq
          repeat (first | refine gi_con ?_ | refine gi_bip (Nat.le_of_ble_eq_true rfl) ?_ | refine gi_sip (Nat.le_of_ble_eq_true rfl) ?_ | refine gi_ldc ?_ | refine gi_add ?_ | refine gi_inc rfl ?_ | refine gi_sub (by omega) ?_ | refine gi_mul ?_ | refine go_nx rfl ?_)
          refine go_jp rfl ?_
          refine go_rt rfl ?_
          exact hq
        · rw [if_pos c4] at hq
          repeat (first | refine gi_con ?_ | refine gi_bip (Nat.le_of_ble_eq_true rfl) ?_ | refine gi_sip (Nat.le_of_ble_eq_true rfl) ?_ | refine gi_ldc ?_ | refine gi_add ?_ | refine gi_inc rfl ?_ | refine gi_sub (by omega) ?_ | refine gi_mul ?_ | refine go_nx rfl ?_)
          refine go_jp rfl ?_
          refine go_rt rfl ?_
          exact hq
  repeat (first | refine gi_con ?_ | refine gi_bip (Nat.le_of_ble_eq_true rfl) ?_ | refine gi_sip (Nat.le_of_ble_eq_true rfl) ?_ | refine gi_ldc ?_ | refine gi_add ?_ | refine gi_inc rfl ?_ | refine gi_sub (by omega) ?_ | refine gi_mul ?_ | refine go_nx rfl ?_)
  refine go_jp rfl ?_
  exact loop (min n m) 0 (by omega) hq
end M
