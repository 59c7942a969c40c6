/-! THE STATE that both sides keep: the tape, the filter, the value, the indexes -/
abbrev qB : Type := Nat × (Nat → Nat)
/-- an index: its two paths (the second may be empty), how -/
abbrev qX : Type := qB × qB × Nat
/-- a path as questions see it: its bytes, is it many-keyed, is it down -/
abbrev qP : Type := qB × Bool × Bool
def q_bit (how b : Nat) : Bool := decide (how / b % 2 = 1)
def q_pth (X : Nat → Option qX) (i w : Int32) : Option qP := if i < 0 ∨ 8 ≤ i then none else match X i.toNatClampNeg with
  | none => none
  | some x => if w = 0 then some (x.1, q_bit x.2.2 4, q_bit x.2.2 1) else if w = 1 ∧ 0 < x.2.1.1 then some (x.2.1, q_bit x.2.2 8, q_bit x.2.2 2) else none
/-- the bounds of a path -/
def q_find (B : Nat → Nat) (p : qP) : Option (List qR) := if p.2.1 = true then q_fone (q_ord B B 17) B (q_col B p.1.2 p.1.1 16 0) else q_fall (q_ord B B 17) B (q_col B p.1.2 p.1.1 16 0)
/-- a filter without fault -/
def q_fine (B : Nat → Nat) (n : Nat) : Prop := q_box (q_u8 B) B 16 0 n false = true ∧ q_ffr B 16 0 ∧ ∀ P m, q_kok B n (q_col B P m 16 0) ∧ (q_col B P m 16 0).length < 110
def mIx (R : Nat → Nat) (C : Nat → Nat → Int32) (i : Nat) (x : Option qX) : Prop := C 5 i = q_t x.isSome ∧ ∀ y, x = some y → C 6 i = nI y.1.1 ∧ C 7 i = nI y.2.1.1 ∧ C 8 i = nI y.2.2 ∧ 1 ≤ y.1.1 ∧ y.1.1 + y.2.1.1 ≤ 2000 ∧ y.2.2 < 16 ∧ (∀ j, j < y.1.1 → R (4000 + 2000 * i + j) = y.1.2 j) ∧ (∀ j, j < y.2.1.1 → R (4000 + 2000 * i + y.1.1 + j) = y.2.1.2 j) ∧ (∀ j, y.1.2 j < 256) ∧ ∀ j, y.2.1.2 j < 256
/-- the reference's cells say F, V, X, the tape t -/
def mInv (R : Nat → Nat) (I : Nat → Int32) (C : Nat → Nat → Int32) (t : qB) (F V : Option qB) (X : Nat → Option qX) : Prop :=
  (∀ j, j < 22100 → C 1 j = sb_b (R j)) ∧ (∀ j, R j < 256) ∧ (∃ S, mS3 C S) ∧
  (t.1 ≤ 2000 ∧ I 2 = nI t.1 ∧ (∀ j, j < t.1 → R (20000 + j) = t.2 j)) ∧
  (I 3 = q_t F.isSome ∧ ∀ f, F = some f → mW R 0 f.1 f.2 ∧ q_fine f.2 f.1) ∧
  (I 4 = q_t V.isSome ∧ ∀ f, V = some f → mW R 2000 f.1 f.2 ∧ q_box (q_u8 f.2) f.2 16 0 f.1 false = true ∧ q_sz f.2 0 = f.1 ∧ 5 < f.1) ∧
  ∀ i, i < 8 → mIx R C i (X i)
theorem mInv_5 {R : Nat → Nat} {I I' : Nat → Int32} {C C' : Nat → Nat → Int32} {t : qB} {F V : Option qB} {X : Nat → Option qX} {S : Nat → List qR} (h : mInv R I C t F V X) (hf : mF5 I I' C C') (hS : mS3 C' S) : mInv R I' C' t F V X := by
  obtain ⟨h1, h2, -, h4, h5, h6, h7⟩ := h
  refine ⟨fun j hj => by rw [hf.2 1 (by decide) (by decide) (by decide) (by decide) (by decide)]; exact h1 j hj, h2, ⟨S, hS⟩, ⟨h4.1, by rw [hf.1 2 (by decide) (by decide)]; exact h4.2.1, h4.2.2⟩, ⟨by rw [hf.1 3 (by decide) (by decide)]; exact h5.1, h5.2⟩, ⟨by rw [hf.1 4 (by decide) (by decide)]; exact h6.1, h6.2⟩, fun i hi => ?_⟩
  unfold mIx
  rw [hf.2 5 (by decide) (by decide) (by decide) (by decide) (by decide), hf.2 6 (by decide) (by decide) (by decide) (by decide) (by decide), hf.2 7 (by decide) (by decide) (by decide) (by decide) (by decide), hf.2 8 (by decide) (by decide) (by decide) (by decide) (by decide)]
  exact h7 i hi
section M
variable {E : mmE} {d : Nat} {h : mmH} {Q : Option Value → mmH → Prop} {o : Nat} {ad : Nat → Nat} {I : Nat → Int32} {C : Nat → Nat → Int32} {R : Nat → Nat} {t : qB} {F V : Option qB} {X : Nat → Option qX}
theorem i_lt0 {i : Int32} (h : ¬ i < 0) (h8 : ¬ 8 ≤ i) : ∃ k, k < 8 ∧ i = nI k := by
  rcases pk_ix i (n := 8) (by decide) with q | q | ⟨j, hj, rfl⟩
  · exact absurd q h
  · exact absurd q h8
  · exact ⟨j, hj, rfl⟩
theorem q_pth_at {k : Nat} (hk : k < 8) (w : Int32) : q_pth X (nI k) w = match X k with
    | none => none
    | some x => if w = 0 then some (x.1, q_bit x.2.2 4, q_bit x.2.2 1) else if w = 1 ∧ 0 < x.2.1.1 then some (x.2.1, q_bit x.2.2 8, q_bit x.2.2 2) else none := by
  unfold q_pth
  rw [if_neg (fun q => q.elim (nI_pos (by omega)) (nI_ge hk (by decide))), nI_clamp (by omega)]
section GI
variable {m pc : Nat} {is : List mmI} {L S : List Value} {h : mmH} {ex : List Nat} {off : Int} {x y : Int32}
theorem gy_ge (h1 : y ≤ x → mm_Go E d m (mm_blk m (mm_k0 ex)) L S h Q) (h2 : ¬ y ≤ x → mm_Go E d m is L S h Q) : mm_Go E d m ((pc, .if_icmp .ge off, ex) :: is) L (.int y :: .int x :: S) h Q := go_br (c := decide (y ≤ x)) rfl (fun c => h1 (of_decide_eq_true c)) (fun c => h2 (of_decide_eq_false c))
theorem gy_lt (h1 : x < y → mm_Go E d m (mm_blk m (mm_k0 ex)) L S h Q) (h2 : ¬ x < y → mm_Go E d m is L S h Q) : mm_Go E d m ((pc, .if_icmp .lt off, ex) :: is) L (.int y :: .int x :: S) h Q := go_br (c := decide (x < y)) rfl (fun c => h1 (of_decide_eq_true c)) (fun c => h2 (of_decide_eq_false c))
theorem gy_gt (h1 : y < x → mm_Go E d m (mm_blk m (mm_k0 ex)) L S h Q) (h2 : ¬ y < x → mm_Go E d m is L S h Q) : mm_Go E d m ((pc, .if_icmp .gt off, ex) :: is) L (.int y :: .int x :: S) h Q := go_br (c := decide (y < x)) rfl (fun c => h1 (of_decide_eq_true c)) (fun c => h2 (of_decide_eq_false c))
theorem gy_le (h1 : x ≤ y → mm_Go E d m (mm_blk m (mm_k0 ex)) L S h Q) (h2 : ¬ x ≤ y → mm_Go E d m is L S h Q) : mm_Go E d m ((pc, .if_icmp .le off, ex) :: is) L (.int y :: .int x :: S) h Q := go_br (c := decide (x ≤ y)) rfl (fun c => h1 (of_decide_eq_true c)) (fun c => h2 (of_decide_eq_false c))
theorem gy_ne (h1 : ¬ x = y → mm_Go E d m (mm_blk m (mm_k0 ex)) L S h Q) (h2 : x = y → mm_Go E d m is L S h Q) : mm_Go E d m ((pc, .if_icmp .ne off, ex) :: is) L (.int y :: .int x :: S) h Q := go_br (c := decide (¬ x = y)) rfl (fun c => h1 (of_decide_eq_true c)) (fun c => h2 (Classical.not_not.mp (of_decide_eq_false c)))
theorem gy_eq (h1 : x = y → mm_Go E d m (mm_blk m (mm_k0 ex)) L S h Q) (h2 : ¬ x = y → mm_Go E d m is L S h Q) : mm_Go E d m ((pc, .if_icmp .eq off, ex) :: is) L (.int y :: .int x :: S) h Q := go_br (c := decide (x = y)) rfl (fun c => h1 (of_decide_eq_true c)) (fun c => h2 (of_decide_eq_false c))
end GI
theorem sp_misPathOf {i w : Int32} (hD : mD o ad) (hI : mInv R I C t F V X) (hq : Q (some (.int (q_t ((q_pth X i w).isSome && F.isSome)))) (mH h o ad I C)) : mm_Go E d 142 (mm_blk 142 0) [.ref o, .int i, .int w] [] (mH h o ad I C) Q := by
  obtain ⟨h1, h2, h3, h4, h5, h6, h7⟩ := hI
  have two : ((q_pth X i w).isSome && F.isSome) = false → mm_Go E d 142 (mm_blk 142 2) [.ref o, .int i, .int w] [] (mH h o ad I C) Q := by
    intro e
    rw [e] at hq
    repeat (first | refine gi_con ?_ | refine gi_bip (Nat.le_of_ble_eq_true rfl) ?_ | refine gi_sip (Nat.le_of_ble_eq_true rfl) ?_ | refine gi_ldc ?_ | refine gi_add ?_ | refine gi_inc rfl ?_ | refine gi_sub (by omega) ?_ | refine gi_mul ?_ | refine go_nx rfl ?_)
    refine go_jp rfl ?_
    refine go_rt rfl ?_
    exact hq
  have one : (q_pth X i w).isSome = true → mm_Go E d 142 (mm_blk 142 1) [.ref o, .int i, .int w] [] (mH h o ad I C) Q := by
    intro e
    rw [e, Bool.true_and] at hq
    repeat (first | refine gi_con ?_ | refine gi_bip (Nat.le_of_ble_eq_true rfl) ?_ | refine gi_sip (Nat.le_of_ble_eq_true rfl) ?_ | refine gi_ldc ?_ | refine gi_add ?_ | refine gi_inc rfl ?_ | refine gi_sub (by omega) ?_ | refine gi_mul ?_ | refine go_nx rfl ?_)
    refine gm_get (.int (q_t F.isSome)) rfl (by rw [← h5.1]; rfl) ?_
    first | refine gt_eq (fun c => ?_) (fun c => ?_) | refine gt_ne (fun c => ?_) (fun c => ?_)
    · exact two (by rw [c, Bool.and_false])
    · rw [c] at hq
      repeat (first | refine gi_con ?_ | refine gi_bip (Nat.le_of_ble_eq_true rfl) ?_ | refine gi_sip (Nat.le_of_ble_eq_true rfl) ?_ | refine gi_ldc ?_ | refine gi_add ?_ | refine gi_inc rfl ?_ | refine gi_sub (by omega) ?_ | refine gi_mul ?_ | refine go_nx rfl ?_)
      refine go_jp rfl ?_
      refine go_rt rfl ?_
      exact hq
  repeat (first | refine gi_con ?_ | refine gi_bip (Nat.le_of_ble_eq_true rfl) ?_ | refine gi_sip (Nat.le_of_ble_eq_true rfl) ?_ | refine gi_ldc ?_ | refine gi_add ?_ | refine gi_inc rfl ?_ | refine gi_sub (by omega) ?_ | refine gi_mul ?_ | refine go_nx rfl ?_)
  refine gx_lt (fun c1 => ?_) (fun c1 => ?_)
  · exact two (by unfold q_pth; rw [if_pos (Or.inl c1)]; rfl)
  repeat (first | refine gi_con ?_ | refine gi_bip (Nat.le_of_ble_eq_true rfl) ?_ | refine gi_sip (Nat.le_of_ble_eq_true rfl) ?_ | refine gi_ldc ?_ | refine gi_add ?_ | refine gi_inc rfl ?_ | refine gi_sub (by omega) ?_ | refine gi_mul ?_ | refine go_nx rfl ?_)
  refine gy_ge (fun c2 => ?_) (fun c2 => ?_)
  · exact two (by unfold q_pth; rw [if_pos (show i < 0 ∨ 8 ≤ i from Or.inr c2)]; rfl)
  obtain ⟨k, hk, rfl⟩ := i_lt0 c1 c2
  obtain ⟨e1, e2⟩ := h7 k hk
  rw [q_pth_at hk w] at one two
  repeat (first | refine gi_con ?_ | refine gi_bip (Nat.le_of_ble_eq_true rfl) ?_ | refine gi_sip (Nat.le_of_ble_eq_true rfl) ?_ | refine gi_ldc ?_ | refine gi_add ?_ | refine gi_inc rfl ?_ | refine gi_sub (by omega) ?_ | refine gi_mul ?_ | refine go_nx rfl ?_)
  refine gm_get (.ref (ad 5)) rfl rfl ?_
  repeat (first | refine gi_con ?_ | refine gi_bip (Nat.le_of_ble_eq_true rfl) ?_ | refine gi_sip (Nat.le_of_ble_eq_true rfl) ?_ | refine gi_ldc ?_ | refine gi_add ?_ | refine gi_inc rfl ?_ | refine gi_sub (by omega) ?_ | refine gi_mul ?_ | refine go_nx rfl ?_)
  refine gm_bld hD (by decide) (Or.inr rfl) (show k < 8 from hk) (by decide) ?_
  rw [e1]
  cases hx : X k with
  | none =>
    rw [hx] at two
    refine gt_eq (fun _ => two rfl) (fun c => by cases c)
  | some x =>
    rw [hx] at one two
    obtain ⟨a1, a2, a3, a4, a5, a6, a7, a8, a9, a10⟩ := e2 x hx
    refine gt_eq (fun c => by cases c) (fun _ => ?_)
    repeat (first | refine gi_con ?_ | refine gi_bip (Nat.le_of_ble_eq_true rfl) ?_ | refine gi_sip (Nat.le_of_ble_eq_true rfl) ?_ | refine gi_ldc ?_ | refine gi_add ?_ | refine gi_inc rfl ?_ | refine gi_sub (by omega) ?_ | refine gi_mul ?_ | refine go_nx rfl ?_)
    refine gx_eq (fun c3 => ?_) (fun c3 => ?_)
    · exact one (by dsimp only; rw [if_pos c3]; rfl)
    have two' : ¬ (w = 1 ∧ 0 < x.2.1.1) → mm_Go E d 142 (mm_blk 142 2) [.ref o, .int (nI k), .int w] [] (mH h o ad I C) Q := fun hn => two (by dsimp only; rw [if_neg c3, if_neg hn]; rfl)
    repeat (first | refine gi_con ?_ | refine gi_bip (Nat.le_of_ble_eq_true rfl) ?_ | refine gi_sip (Nat.le_of_ble_eq_true rfl) ?_ | refine gi_ldc ?_ | refine gi_add ?_ | refine gi_inc rfl ?_ | refine gi_sub (by omega) ?_ | refine gi_mul ?_ | refine go_nx rfl ?_)
    refine gy_ne (fun c4 => ?_) (fun c4 => ?_)
    · exact two' (fun q => c4 q.1)
    repeat (first | refine gi_con ?_ | refine gi_bip (Nat.le_of_ble_eq_true rfl) ?_ | refine gi_sip (Nat.le_of_ble_eq_true rfl) ?_ | refine gi_ldc ?_ | refine gi_add ?_ | refine gi_inc rfl ?_ | refine gi_sub (by omega) ?_ | refine gi_mul ?_ | refine go_nx rfl ?_)
    refine gm_get (.ref (ad 7)) rfl rfl ?_
    repeat (first | refine gi_con ?_ | refine gi_bip (Nat.le_of_ble_eq_true rfl) ?_ | refine gi_sip (Nat.le_of_ble_eq_true rfl) ?_ | refine gi_ldc ?_ | refine gi_add ?_ | refine gi_inc rfl ?_ | refine gi_sub (by omega) ?_ | refine gi_mul ?_ | refine go_nx rfl ?_)
    refine gm_ild hD (by decide) rfl (show k < 8 from hk) (by decide) ?_
    rw [a2]
    first | refine gz_eq (by omega) (fun c5 => ?_) (fun c5 => ?_) | refine gz_ne (by omega) (fun c5 => ?_) (fun c5 => ?_) | refine gz_le (by omega) (fun c5 => ?_) (fun c5 => ?_) | refine gz_gt (by omega) (fun c5 => ?_) (fun c5 => ?_) | refine gz_lt (by omega) (fun c5 => ?_) (fun c5 => ?_) | refine gz_ge (by omega) (fun c5 => ?_) (fun c5 => ?_)
    · exact two' (fun q => by omega)
    · refine go_jp rfl ?_
      exact one (by dsimp only; rw [if_neg c3, if_pos ⟨c4, c5⟩]; rfl)
theorem q_and_bit : ∀ how, how < 16 → ((nI how &&& nI 4 ≤ 0 ↔ q_bit how 4 = false) ∧ (nI how &&& nI 8 ≤ 0 ↔ q_bit how 8 = false) ∧ (nI how &&& nI 1 ≤ 0 ↔ q_bit how 1 = false) ∧ (nI how &&& nI 2 ≤ 0 ↔ q_bit how 2 = false)) := by decide +kernel
theorem gx_le {m pc : Nat} {is : List mmI} {L S : List Value} {h : mmH} {ex : List Nat} {off : Int} {x : Int32} (h1 : x ≤ 0 → mm_Go E d m (mm_blk m (mm_k0 ex)) L S h Q) (h2 : ¬ x ≤ 0 → mm_Go E d m is L S h Q) : mm_Go E d m ((pc, .ifCond .le off, ex) :: is) L (.int x :: S) h Q := go_br (c := decide (x ≤ 0)) rfl (fun c => h1 (of_decide_eq_true c)) (fun c => h2 (of_decide_eq_false c))
end M
