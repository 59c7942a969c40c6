/-! THE QUESTIONS: answers, and the reference gives them -/
def a_many (F : Option qB) (X : Nat → Option qX) (i w : Int32) : Int32 := match q_pth X i w, F with
  | some p, some f => match q_find f.2 p with
    | some l => nI l.length
    | none => -1
  | _, _ => -2
def q_side (x : qE) (what : Nat) : Int32 := if what = 0 then nI x.1 else if what = 1 then (if x.2.1 = 1 then 1 else 0) else if what = 2 then nI x.2.2.1 else if x.2.1 = 1 then nI x.2.2.2 else -1
def a_end (F : Option qB) (X : Nat → Option qX) (i w k : Int32) (high : Bool) (what : Int32) : Int32 := match q_pth X i w, F with
  | some p, some f => if what < 0 ∨ 3 < what then -2 else match q_find f.2 p with
    | some l => if k < 0 ∨ nI l.length ≤ k then -2 else
      q_side (if high = true then (l.getD (if p.2.2 = true then l.length - 1 - k.toNatClampNeg else k.toNatClampNeg) q_r0).2 else (l.getD (if p.2.2 = true then l.length - 1 - k.toNatClampNeg else k.toNatClampNeg) q_r0).1) what.toNatClampNeg
    | none => -2
  | _, _ => -2
def q_hold (B C : Nat → Nat) (r : qR) : Bool := (decide (q_std (q_ord B C 17) r.1 (q_cls (C 4), 1, 1, 4) < 0) || (decide (q_std (q_ord B C 17) r.1 (q_cls (C 4), 1, 1, 4) = 0) && decide (r.1.2.2.1 = 1))) && (decide (0 < q_std (q_ord B C 17) r.2 (q_cls (C 4), 1, 1, 4)) || (decide (q_std (q_ord B C 17) r.2 (q_cls (C 4), 1, 1, 4) = 0) && decide (r.2.2.2.1 = 1)))
def a_inside (F V : Option qB) (X : Nat → Option qX) (i w : Int32) : Int32 := match q_pth X i w, F, V with
  | some p, some f, some v => match q_find f.2 p with
    | some l => q_t (l.any (q_hold f.2 v.2))
    | none => 1
  | _, _, _ => -1
def q_points (B : Nat → Nat) (l : List qR) : Bool := l.all (fun r => decide (r.1.2.1 = 1) && (decide (r.2.2.1 = 1) && decide (q_ord B B 17 r.1.2.2.2 r.2.2.2.2 = 0)))
def a_rank (F : Option qB) (X : Nat → Option qX) (i : Int32) : Int32 := match q_pth X i 0, F with
  | some p, some f => match q_find f.2 p with
    | none => 0
    | some l => if q_points f.2 l = false then 1 else match q_pth X i 1 with
      | some p2 => if (q_find f.2 p2).isSome = true then 3 else 2
      | none => 2
  | _, _ => -1
def a_ranges (F : Option qB) (X : Nat → Option qX) (i : Int32) : Int32 := if a_rank F X i < 1 then (if a_rank F X i < 0 then -1 else 1) else if a_rank F X i = 3 then a_many F X i 0 * a_many F X i 1 else a_many F X i 0
section M
variable {E : mmE} {d : Nat} {h : mmH} {Q : Option Value → mmH → Prop} {o : Nat} {ad : Nat → Nat} {I : Nat → Int32} {C : Nat → Nat → Int32} {R : Nat → Nat} {t : qB} {F V : Option qB} {X : Nat → Option qX}
theorem q_fold_ok {B : Nat → Nat} {n : Nat} : ∀ (K : List (Nat × Nat)) (st : Option (List qR)), (∀ ce ∈ K, q_cok B n ce) → (∀ l, st = some l → ∀ r ∈ l, q_okR B n r) → ∀ l, K.foldl (fun st ce => q_join2 (q_ord B B 17) st (q_bnd (q_ord B B 17) B ce)) st = some l → ∀ r ∈ l, q_okR B n r := by
  intro K
  induction K with
  | nil => intro st _ h l hl; exact h l hl
  | cons ce K ih =>
    intro st hK h l hl
    exact ih _ (fun x hx => hK x (List.mem_cons_of_mem _ hx)) (q_join2_ok h (fun l2 hl2 => q_bnd_ok (hK ce List.mem_cons_self) hl2)) l hl
theorem q_fst_ok {B : Nat → Nat} {n : Nat} {p : Nat × Nat → Bool} : ∀ (K : List (Nat × Nat)), (∀ ce ∈ K, q_cok B n ce) → ∀ l, q_fst (q_ord B B 17) B p K = some l → ∀ r ∈ l, q_okR B n r := by
  intro K
  induction K with
  | nil => intro _ l hl; cases hl
  | cons ce K ih =>
    intro hK l hl
    rw [q_fst_c] at hl
    split at hl
    · exact q_bnd_ok (hK ce List.mem_cons_self) hl
    · exact ih (fun x hx => hK x (List.mem_cons_of_mem _ hx)) l hl
theorem q_find_ok {B : Nat → Nat} {n : Nat} {p : qP} {l : List qR} (hf : q_fine B n) (h : q_find B p = some l) : ∀ r ∈ l, q_okR B n r := by
  obtain ⟨-, -, h3⟩ := hf
  obtain ⟨⟨h4, -⟩, -⟩ := h3 p.1.2 p.1.1
  unfold q_find at h
  split at h
  · unfold q_fone at h
    split at h
    · rename_i l2 hl2
      cases h
      exact q_fst_ok _ h4 l hl2
    · exact q_fst_ok _ h4 l h
  · exact q_fold_ok _ none h4 (fun l hl => by cases hl) l h
theorem sp_mfindX {k : Nat} {w : Int32} {p : qP} {f : qB} (hd : 52 ≤ d) (hD : mD o ad) (hI : mInv R I C t F V X) (hk : k < 8) (hp : q_pth X (nI k) w = some p) (hF : F = some f)
    (hq : ∀ I' C' S', mInv R I' C' t F V X → mS3 C' S' → (∀ l, q_find f.2 p = some l → S' 0 = l) → Q (some (.int (q_t (q_find f.2 p).isSome))) (mH h o ad I' C')) : mm_Go E d 143 (mm_blk 143 0) [.ref o, .int (nI k), .int w, mm_un] [] (mH h o ad I C) Q := by
  have hI0 := hI
  obtain ⟨h1, h2, ⟨S, hS⟩, h4, h5, h6, h7⟩ := hI
  obtain ⟨e1, e2⟩ := h7 k hk
  obtain ⟨hw, hbx, hff, hall⟩ := h5.2 f hF
  rw [q_pth_at hk w] at hp
  cases hx : X k with
  | none => rw [hx] at hp; cases hp
  | some x =>
    rw [hx] at hp
    have hp : (if w = 0 then some (x.1, q_bit x.2.2 4, q_bit x.2.2 1) else if w = 1 ∧ 0 < x.2.1.1 then some (x.2.1, q_bit x.2.2 8, q_bit x.2.2 2) else none) = some p := hp
    obtain ⟨a1, a2, a3, a4, a5, a6, a7, a8, a9, a10⟩ := e2 x hx
    obtain ⟨hkok, hklen⟩ := hall p.1.2 p.1.1
    obtain ⟨n4, n8, -, -⟩ := q_and_bit x.2.2 a6
    have hfk0 : mFk I (uf I 11 (nI 0)) C C := ⟨fun j hj => uf_ne hj, fun _ _ _ => rfl⟩
    have hK0 : mK (uf I 11 (nI 0)) C [] := ⟨by simp, uf_at _ _ _, fun k hk => by simp at hk⟩
    have fin : ∀ (I2 : Nat → Int32) (C2 : Nat → Nat → Int32) (x3 : Int32), mK I2 C2 (q_col f.2 p.1.2 p.1.1 16 0) → mFk I I2 C C2 → (p.2.1 = true → mm_Go E d 143 ((mm_blk 143 6).drop 2) [.ref o, .int (nI k), .int w, .int x3] [] (mH h o ad I2 C2) Q) ∧ (p.2.1 = false → mm_Go E d 143 (mm_blk 143 7) [.ref o, .int (nI k), .int w, .int x3] [] (mH h o ad I2 C2) Q) := by
      intro I2 C2 x3 hK2 hF2
      have hS2 : mS3 C2 S := fun r hr => by rw [hF2.2 14 (by decide) (by decide), hF2.2 15 (by decide) (by decide)]; exact hS r hr
      have hC2 : ∀ j, j < 22100 → C2 1 j = sb_b (R j) := fun j hj => by rw [hF2.2 1 (by decide) (by decide)]; exact h1 j hj
      unfold q_find at hq
      refine ⟨fun hb => ?_, fun hb => ?_⟩
      · rw [if_pos hb] at hq
        repeat (first | refine gi_con ?_ | refine gi_bip (Nat.le_of_ble_eq_true rfl) ?_ | refine gi_sip (Nat.le_of_ble_eq_true rfl) ?_ | refine gi_ldc ?_ | refine gi_add ?_ | refine gi_inc rfl ?_ | refine gi_sub (by omega) ?_ | refine gi_mul ?_ | refine go_nx rfl ?_)
        refine go_step ?_
        refine g_callV (by decide) (by decide) (Nat.le_of_ble_eq_true rfl) (Nat.le_of_ble_eq_true rfl) mH_rcv (by omega) (Nat.le_of_ble_eq_true rfl) rfl ?_
        refine sp_mfone (by omega) hD hC2 h2 hw hS2 hK2 hkok (fun C3 S3 hS3 hs3 hF3 => ?_)
        repeat (first | refine gi_con ?_ | refine gi_bip (Nat.le_of_ble_eq_true rfl) ?_ | refine gi_sip (Nat.le_of_ble_eq_true rfl) ?_ | refine gi_ldc ?_ | refine gi_add ?_ | refine gi_inc rfl ?_ | refine gi_sub (by omega) ?_ | refine gi_mul ?_ | refine go_nx rfl ?_)
        refine go_jp rfl ?_
        exact go_rtB rfl (hq I2 C3 S3 (mInv_5 hI0 (mF5_t (mF5_fk hF2) (mF5_fr (I := I2) hF3)) hS3) hS3 hs3)
      · rw [hb, if_neg (by decide)] at hq
        repeat (first | refine gi_con ?_ | refine gi_bip (Nat.le_of_ble_eq_true rfl) ?_ | refine gi_sip (Nat.le_of_ble_eq_true rfl) ?_ | refine gi_ldc ?_ | refine gi_add ?_ | refine gi_inc rfl ?_ | refine gi_sub (by omega) ?_ | refine gi_mul ?_ | refine go_nx rfl ?_)
        refine go_step ?_
        refine g_callV (by decide) (by decide) (Nat.le_of_ble_eq_true rfl) (Nat.le_of_ble_eq_true rfl) mH_rcv (by omega) (Nat.le_of_ble_eq_true rfl) rfl ?_
        refine sp_mfall (by omega) hD hC2 h2 hw hS2 hK2 hkok (fun I3 C3 S3 hS3 hs3 hF3 => ?_)
        repeat (first | refine gi_con ?_ | refine gi_bip (Nat.le_of_ble_eq_true rfl) ?_ | refine gi_sip (Nat.le_of_ble_eq_true rfl) ?_ | refine gi_ldc ?_ | refine gi_add ?_ | refine gi_inc rfl ?_ | refine gi_sub (by omega) ?_ | refine gi_mul ?_ | refine go_nx rfl ?_)
        refine go_jp rfl ?_
        exact go_rtB rfl (hq I3 C3 S3 (mInv_5 hI0 (mF5_t (mF5_fk hF2) hF3) hS3) hS3 hs3)
    repeat (first | refine gi_con ?_ | refine gi_bip (Nat.le_of_ble_eq_true rfl) ?_ | refine gi_sip (Nat.le_of_ble_eq_true rfl) ?_ | refine gi_ldc ?_ | refine gi_add ?_ | refine gi_inc rfl ?_ | refine gi_sub (by omega) ?_ | refine gi_mul ?_ | refine go_nx rfl ?_)
    refine gm_put 11 rfl rfl (by decide) rfl ?_
    repeat (first | refine gi_con ?_ | refine gi_bip (Nat.le_of_ble_eq_true rfl) ?_ | refine gi_sip (Nat.le_of_ble_eq_true rfl) ?_ | refine gi_ldc ?_ | refine gi_add ?_ | refine gi_inc rfl ?_ | refine gi_sub (by omega) ?_ | refine gi_mul ?_ | refine go_nx rfl ?_)
    refine gx_ne (fun c1 => ?_) (fun c1 => ?_)
    · rw [if_neg c1] at hp
      by_cases hw1 : w = 1 ∧ 0 < x.2.1.1
      · rw [if_pos hw1] at hp
        cases hp
        repeat (first | refine gi_con ?_ | refine gi_bip (Nat.le_of_ble_eq_true rfl) ?_ | refine gi_sip (Nat.le_of_ble_eq_true rfl) ?_ | refine gi_ldc ?_ | refine gi_add ?_ | refine gi_inc rfl ?_ | refine gi_sub (by omega) ?_ | refine gi_mul ?_ | refine go_nx rfl ?_)
        refine gm_get (.ref (ad 6)) rfl rfl ?_
        repeat (first | refine gi_con ?_ | refine gi_bip (Nat.le_of_ble_eq_true rfl) ?_ | refine gi_sip (Nat.le_of_ble_eq_true rfl) ?_ | refine gi_ldc ?_ | refine gi_add ?_ | refine gi_inc rfl ?_ | refine gi_sub (by omega) ?_ | refine gi_mul ?_ | refine go_nx rfl ?_)
        refine gm_ild hD (by decide) rfl (show k < 8 from hk) (by decide) ?_
        rw [a1]
        repeat (first | refine gi_con ?_ | refine gi_bip (Nat.le_of_ble_eq_true rfl) ?_ | refine gi_sip (Nat.le_of_ble_eq_true rfl) ?_ | refine gi_ldc ?_ | refine gi_add ?_ | refine gi_inc rfl ?_ | refine gi_sub (by omega) ?_ | refine gi_mul ?_ | refine go_nx rfl ?_)
        refine go_jp rfl ?_
        repeat (first | refine gi_con ?_ | refine gi_bip (Nat.le_of_ble_eq_true rfl) ?_ | refine gi_sip (Nat.le_of_ble_eq_true rfl) ?_ | refine gi_ldc ?_ | refine gi_add ?_ | refine gi_inc rfl ?_ | refine gi_sub (by omega) ?_ | refine gi_mul ?_ | refine go_nx rfl ?_)
        refine gx_ne (fun c2 => ?_) (fun c2 => absurd c2 c1)
        repeat (first | refine gi_con ?_ | refine gi_bip (Nat.le_of_ble_eq_true rfl) ?_ | refine gi_sip (Nat.le_of_ble_eq_true rfl) ?_ | refine gi_ldc ?_ | refine gi_add ?_ | refine gi_inc rfl ?_ | refine gi_sub (by omega) ?_ | refine gi_mul ?_ | refine go_nx rfl ?_)
        refine gm_get (.ref (ad 7)) rfl rfl ?_
        repeat (first | refine gi_con ?_ | refine gi_bip (Nat.le_of_ble_eq_true rfl) ?_ | refine gi_sip (Nat.le_of_ble_eq_true rfl) ?_ | refine gi_ldc ?_ | refine gi_add ?_ | refine gi_inc rfl ?_ | refine gi_sub (by omega) ?_ | refine gi_mul ?_ | refine go_nx rfl ?_)
        refine gm_ild hD (by decide) rfl (show k < 8 from hk) (by decide) ?_
        rw [a2]
        repeat (first | refine gi_con ?_ | refine gi_bip (Nat.le_of_ble_eq_true rfl) ?_ | refine gi_sip (Nat.le_of_ble_eq_true rfl) ?_ | refine gi_ldc ?_ | refine gi_add ?_ | refine gi_inc rfl ?_ | refine gi_sub (by omega) ?_ | refine gi_mul ?_ | refine go_nx rfl ?_)
        refine go_jp rfl ?_
        refine go_step ?_
        refine g_callV (by decide) (by decide) (Nat.le_of_ble_eq_true rfl) (Nat.le_of_ble_eq_true rfl) mH_rcv (by omega) (Nat.le_of_ble_eq_true rfl) rfl ?_
        refine sp_mcol (P := x.2.1.2) hD h2 hw a8 a10 (by omega) (by omega) 16 (d - 1) 0 f.1 16 (uf I 11 (nI 0)) C [] _ (by omega) hbx (by omega) hff h1 hK0 (by simpa using hklen) (fun I2 C2 hK2 hF2 => ?_)
        rw [List.nil_append] at hK2
        have hF2 := mFk_t hfk0 hF2
        repeat (first | refine gi_con ?_ | refine gi_bip (Nat.le_of_ble_eq_true rfl) ?_ | refine gi_sip (Nat.le_of_ble_eq_true rfl) ?_ | refine gi_ldc ?_ | refine gi_add ?_ | refine gi_inc rfl ?_ | refine gi_sub (by omega) ?_ | refine gi_mul ?_ | refine go_nx rfl ?_)
        refine gm_get (.ref (ad 8)) rfl rfl ?_
        repeat (first | refine gi_con ?_ | refine gi_bip (Nat.le_of_ble_eq_true rfl) ?_ | refine gi_sip (Nat.le_of_ble_eq_true rfl) ?_ | refine gi_ldc ?_ | refine gi_add ?_ | refine gi_inc rfl ?_ | refine gi_sub (by omega) ?_ | refine gi_mul ?_ | refine go_nx rfl ?_)
        refine gm_ild hD (by decide) rfl (show k < 8 from hk) (by decide) ?_
        rw [hF2.2 8 (by decide) (by decide), a3]
        repeat (first | refine gi_con ?_ | refine gi_bip (Nat.le_of_ble_eq_true rfl) ?_ | refine gi_sip (Nat.le_of_ble_eq_true rfl) ?_ | refine gi_ldc ?_ | refine gi_add ?_ | refine gi_inc rfl ?_ | refine gi_sub (by omega) ?_ | refine gi_mul ?_ | refine go_nx rfl ?_)
        refine gx_ne (fun c3 => ?_) (fun c3 => absurd c3 c1)
        repeat (first | refine gi_con ?_ | refine gi_bip (Nat.le_of_ble_eq_true rfl) ?_ | refine gi_sip (Nat.le_of_ble_eq_true rfl) ?_ | refine gi_ldc ?_ | refine gi_add ?_ | refine gi_inc rfl ?_ | refine gi_sub (by omega) ?_ | refine gi_mul ?_ | refine go_nx rfl ?_)
        refine go_jp rfl ?_
        refine go_nx rfl ?_
        refine gx_le (fun c4 => ?_) (fun c4 => ?_)
        · exact (fin I2 C2 _ hK2 hF2).2 (n8.mp c4)
        · exact (fin I2 C2 _ hK2 hF2).1 (by
            cases hb : q_bit x.2.2 8 with
            | true => rfl
            | false => exact absurd (n8.mpr hb) c4)
      · rw [if_neg hw1] at hp
        cases hp
    · rw [if_pos c1] at hp
      cases hp
      repeat (first | refine gi_con ?_ | refine gi_bip (Nat.le_of_ble_eq_true rfl) ?_ | refine gi_sip (Nat.le_of_ble_eq_true rfl) ?_ | refine gi_ldc ?_ | refine gi_add ?_ | refine gi_inc rfl ?_ | refine gi_sub (by omega) ?_ | refine gi_mul ?_ | refine go_nx rfl ?_)
      refine go_jp rfl ?_
      repeat (first | refine gi_con ?_ | refine gi_bip (Nat.le_of_ble_eq_true rfl) ?_ | refine gi_sip (Nat.le_of_ble_eq_true rfl) ?_ | refine gi_ldc ?_ | refine gi_add ?_ | refine gi_inc rfl ?_ | refine gi_sub (by omega) ?_ | refine gi_mul ?_ | refine go_nx rfl ?_)
      refine gx_ne (fun c2 => absurd c1 c2) (fun c2 => ?_)
      repeat (first | refine gi_con ?_ | refine gi_bip (Nat.le_of_ble_eq_true rfl) ?_ | refine gi_sip (Nat.le_of_ble_eq_true rfl) ?_ | refine gi_ldc ?_ | refine gi_add ?_ | refine gi_inc rfl ?_ | refine gi_sub (by omega) ?_ | refine gi_mul ?_ | refine go_nx rfl ?_)
      refine gm_get (.ref (ad 6)) rfl rfl ?_
      repeat (first | refine gi_con ?_ | refine gi_bip (Nat.le_of_ble_eq_true rfl) ?_ | refine gi_sip (Nat.le_of_ble_eq_true rfl) ?_ | refine gi_ldc ?_ | refine gi_add ?_ | refine gi_inc rfl ?_ | refine gi_sub (by omega) ?_ | refine gi_mul ?_ | refine go_nx rfl ?_)
      refine gm_ild hD (by decide) rfl (show k < 8 from hk) (by decide) ?_
      rw [a1]
      repeat (first | refine gi_con ?_ | refine gi_bip (Nat.le_of_ble_eq_true rfl) ?_ | refine gi_sip (Nat.le_of_ble_eq_true rfl) ?_ | refine gi_ldc ?_ | refine gi_add ?_ | refine gi_inc rfl ?_ | refine gi_sub (by omega) ?_ | refine gi_mul ?_ | refine go_nx rfl ?_)
      refine go_jp rfl ?_
      refine go_step ?_
      refine g_callV (by decide) (by decide) (Nat.le_of_ble_eq_true rfl) (Nat.le_of_ble_eq_true rfl) mH_rcv (by omega) (Nat.le_of_ble_eq_true rfl) rfl ?_
      refine sp_mcol (P := x.1.2) hD h2 hw a7 a9 (by omega) (by omega) 16 (d - 1) 0 f.1 16 (uf I 11 (nI 0)) C [] _ (by omega) hbx (by omega) hff h1 hK0 (by simpa using hklen) (fun I2 C2 hK2 hF2 => ?_)
      rw [List.nil_append] at hK2
      have hF2 := mFk_t hfk0 hF2
      repeat (first | refine gi_con ?_ | refine gi_bip (Nat.le_of_ble_eq_true rfl) ?_ | refine gi_sip (Nat.le_of_ble_eq_true rfl) ?_ | refine gi_ldc ?_ | refine gi_add ?_ | refine gi_inc rfl ?_ | refine gi_sub (by omega) ?_ | refine gi_mul ?_ | refine go_nx rfl ?_)
      refine gm_get (.ref (ad 8)) rfl rfl ?_
      repeat (first | refine gi_con ?_ | refine gi_bip (Nat.le_of_ble_eq_true rfl) ?_ | refine gi_sip (Nat.le_of_ble_eq_true rfl) ?_ | refine gi_ldc ?_ | refine gi_add ?_ | refine gi_inc rfl ?_ | refine gi_sub (by omega) ?_ | refine gi_mul ?_ | refine go_nx rfl ?_)
      refine gm_ild hD (by decide) rfl (show k < 8 from hk) (by decide) ?_
      rw [hF2.2 8 (by decide) (by decide), a3]
      repeat (first | refine gi_con ?_ | refine gi_bip (Nat.le_of_ble_eq_true rfl) ?_ | refine gi_sip (Nat.le_of_ble_eq_true rfl) ?_ | refine gi_ldc ?_ | refine gi_add ?_ | refine gi_inc rfl ?_ | refine gi_sub (by omega) ?_ | refine gi_mul ?_ | refine go_nx rfl ?_)
      refine gx_ne (fun c3 => absurd c1 c3) (fun c3 => ?_)
      repeat (first | refine gi_con ?_ | refine gi_bip (Nat.le_of_ble_eq_true rfl) ?_ | refine gi_sip (Nat.le_of_ble_eq_true rfl) ?_ | refine gi_ldc ?_ | refine gi_add ?_ | refine gi_inc rfl ?_ | refine gi_sub (by omega) ?_ | refine gi_mul ?_ | refine go_nx rfl ?_)
      refine go_jp rfl ?_
      refine go_nx rfl ?_
      refine gx_le (fun c4 => ?_) (fun c4 => ?_)
      · exact (fin I2 C2 _ hK2 hF2).2 (n4.mp c4)
      · exact (fin I2 C2 _ hK2 hF2).1 (by
          cases hb : q_bit x.2.2 4 with
          | true => rfl
          | false => exact absurd (n4.mpr hb) c4)
end M
