/-! the bounds of a condition -/
def q_in (c : Nat) : Nat := if c = 4 ∨ c = 6 then 1 else 0
def q_wb (ob : Nat → Nat → Int32) (B : Nat → Nat) (c e : Nat) : Option (List qR) :=
  if c = 2 then q_items ob B e else if B e = 4 then none else if c = 1 ∨ q_cls (B e) = 1 ∧ (c = 4 ∨ c = 6) then some [q_pt B e]
  else if 1 < q_cls (B e) then some [if c < 5 then ((q_cls (B e), 0, 0, 0), (q_cls (B e), 1, q_in c, e)) else ((q_cls (B e), 1, q_in c, e), (q_cls (B e), 2, 0, 0))] else some []
def q_rr : qR := ((5, 0, 0, 0), (5, 2, 0, 0))
def q_addr : List qR → List qR
  | [] => [q_rr]
  | r :: l => if 5 < r.1.1 then q_rr :: r :: l else r :: q_addr l
def q_join2 (ob : Nat → Nat → Int32) (st : Option (List qR)) (rows : Option (List qR)) : Option (List qR) := match rows with
  | none => st
  | some l => match st with
    | none => some l
    | some cur => some (q_meet ob cur l)
def q_wstep (ob : Nat → Nat → Int32) (B : Nat → Nat) (st : Option (List qR)) (f : Nat) : Option (List qR) := if 1 ≤ q_nof (q_word B f) ∧ q_nof (q_word B f) ≤ 6 then q_join2 ob st (q_wb ob B (q_nof (q_word B f)) f) else st
def q_we0 (ob : Nat → Nat → Int32) (B : Nat → Nat) (e : Nat) : Option (List qR) := (q_els B (q_last B (q_val B e)) 2001 (q_val B e + 4)).foldl (q_wstep ob B) none
def q_we (ob : Nat → Nat → Int32) (B : Nat → Nat) (e : Nat) : Option (List qR) := (q_we0 ob B e).map q_addr
section OK
variable {B : Nat → Nat} {n : Nat} {ob : Nat → Nat → Int32}
theorem q_okE_at {p lev i : Nat} (h : q_me B n p lev) (hl : lev < 17) (hi : i ≤ 1) : q_okE B n (q_cls (B p), 1, i, p) := by
  have := (q_me_cls h).2.2.2.2.2.2
  exact ⟨this.1, this.2, (by show (1 : Nat) ≤ 2; omega), hi, fun _ => ⟨rfl, lev, hl, h⟩⟩
theorem q_okE_be {c w : Nat} (hc : 1 ≤ c ∧ c ≤ 6) (hw : w = 0 ∨ w = 2) : q_okE B n (c, w, 0, 0) := ⟨hc.1, hc.2, by show w ≤ 2; omega, Nat.zero_le _, fun q => by have q : w = 1 := q; omega⟩
theorem q_pt_ok {r : qR} (h : q_isPt B n r) : q_okR B n r := by
  obtain ⟨p, lev, rfl, h1, h2⟩ := h
  exact ⟨q_okE_at h2 h1 (Nat.le_refl _), q_okE_at h2 h1 (Nat.le_refl _)⟩
theorem q_met_ok {x y r : qR} (hx : q_okR B n x) (hy : q_okR B n y) (h : q_met ob x y = some r) : q_okR B n r := by
  unfold q_met at h
  split at h
  · cases h
    refine ⟨?_, ?_⟩
    · show q_okE B n (q_mlow ob x y)
      unfold q_mlow
      split
      · exact hy.1
      · exact hx.1
    · show q_okE B n (q_mhigh ob x y)
      unfold q_mhigh
      split
      · exact hy.2
      · exact hx.2
  · cases h
theorem q_meet_ok {a b : List qR} (ha : ∀ x ∈ a, q_okR B n x) (hb : ∀ x ∈ b, q_okR B n x) : ∀ x ∈ q_meet ob a b, q_okR B n x := by
  intro r hr
  obtain ⟨x, hx, hr⟩ := List.mem_flatMap.mp hr
  obtain ⟨y, hy, hr⟩ := List.mem_filterMap.mp hr
  exact q_met_ok (ha x hx) (hb y hy) hr
theorem q_els_me {lev last : Nat} {row : Bool} (hl : last ≤ n) (hlev : lev < 17) : ∀ (f p i : Nat), q_at (q_u8 B) lev B row last p i → ∀ x ∈ q_els B last f p, x < last ∧ q_me B n x lev := by
  intro f
  induction f with
  | zero => intro p i h x hx; cases hx
  | succ f ih =>
    intro p i h x hx
    unfold q_els at hx
    split at hx
    · rename_i hp
      rcases List.mem_cons.mp hx with hx | hx
      · rw [hx]
        exact ⟨hp, q_me_at h hp hl⟩
      · exact ih _ _ (q_at_el h hp).2.2.2.2 x hx
    · cases hx
theorem q_fold_pt {lev : Nat} (hlev : lev < 17) : ∀ (l : List Nat) (acc : List qR), (∀ x ∈ l, q_me B n x lev) → (∀ r ∈ acc, q_isPt B n r) → ∀ r ∈ l.foldl (fun acc i => q_insr ob B acc i) acc, q_isPt B n r := by
  intro l
  induction l with
  | nil => intro acc _ h; exact h
  | cons x l ih =>
    intro acc hl h
    exact ih _ (fun y hy => hl y (List.mem_cons_of_mem _ hy)) (q_insr_pt h (hl x List.mem_cons_self) hlev)
theorem q_items_ok {e lev : Nat} {l : List qR} (he : q_me B n e lev) (hlev : lev < 17) (hk : B e = 4) (h : q_items ob B e = some l) : ∀ r ∈ l, q_isPt B n r := by
  obtain ⟨b1, b2, b3, b4, b5⟩ := q_me_box he (Or.inr hk)
  unfold q_items at h
  split at h
  · cases h
  · cases h
    exact q_fold_pt (lev := lev - 1) (by omega) _ _ (fun x hx => (q_els_me (by omega) (by omega) _ _ _ b5 x hx).2) (fun r hr => by cases hr)
theorem q_in_le (c : Nat) : q_in c ≤ 1 := by
  unfold q_in
  split <;> omega
theorem q_wb_ok {c e lev : Nat} {l : List qR} (he : q_me B n e lev) (hlev : lev < 17) (hk : c = 2 → B e = 4) (h : q_wb ob B c e = some l) : ∀ r ∈ l, q_okR B n r := by
  unfold q_wb at h
  have hc := (q_me_cls he).2.2.2.2.2.2
  split at h
  · rename_i h2
    exact fun r hr => q_pt_ok (q_items_ok he hlev (hk h2) h r hr)
  · split at h
    · cases h
    · split at h
      · cases h
        intro r hr
        rw [List.mem_singleton.mp hr]
        exact q_pt_ok ⟨e, lev, rfl, hlev, he⟩
      · split at h
        · cases h
          intro r hr
          rw [List.mem_singleton.mp hr]
          split
          · exact ⟨q_okE_be hc (Or.inl rfl), q_okE_at he hlev (q_in_le c)⟩
          · exact ⟨q_okE_at he hlev (q_in_le c), q_okE_be hc (Or.inr rfl)⟩
        · cases h
          intro r hr
          cases hr
theorem q_join2_ok {st rows : Option (List qR)} (h1 : ∀ l, st = some l → ∀ r ∈ l, q_okR B n r) (h2 : ∀ l, rows = some l → ∀ r ∈ l, q_okR B n r) : ∀ l, q_join2 ob st rows = some l → ∀ r ∈ l, q_okR B n r := by
  intro l hl
  unfold q_join2 at hl
  cases rows with
  | none => exact h1 l hl
  | some l2 =>
    cases st with
    | none =>
      cases hl
      exact h2 _ rfl
    | some cur =>
      cases hl
      exact q_meet_ok (h1 _ rfl) (h2 _ rfl)
theorem q_addr_mem : ∀ (l : List qR) (r : qR), r ∈ q_addr l → r = q_rr ∨ r ∈ l := by
  intro l
  induction l with
  | nil =>
    intro r hr
    exact Or.inl (List.mem_singleton.mp hr)
  | cons x l ih =>
    intro r hr
    unfold q_addr at hr
    split at hr
    · rcases List.mem_cons.mp hr with hr | hr
      · exact Or.inl hr
      · exact Or.inr hr
    · rcases List.mem_cons.mp hr with hr | hr
      · exact Or.inr (by rw [hr]; exact List.mem_cons_self)
      · exact (ih r hr).imp_right (List.mem_cons_of_mem _)
theorem q_addr_len : ∀ (l : List qR), (q_addr l).length = l.length + 1 := by
  intro l
  induction l with
  | nil => rfl
  | cons x l ih =>
    unfold q_addr
    split
    · rfl
    · rw [List.length_cons, ih, List.length_cons]
end OK
section M
variable {E : mmE} {d : Nat} {h : mmH} {Q : Option Value → mmH → Prop} {o : Nat} {ad : Nat → Nat} {I : Nat → Int32} {C : Nat → Nat → Int32} {S : Nat → List qR} {R B : Nat → Nat} {n : Nat}
theorem mS3_zero {s : Nat} (hS : mS3 C S) : mS3 (uf C 14 (uf (C 14) s (nI 0))) (uf S s []) := by
  intro r hr
  obtain ⟨a1, a2, a3⟩ := hS r hr
  rw [uf_at, uf_ne (show (15 : Nat) ≠ 14 by decide)]
  by_cases hrs : r = s
  · subst hrs
    rw [uf_at, uf_at]
    exact ⟨by simp, rfl, fun k hk => by simp at hk⟩
  · rw [uf_ne hrs, uf_ne hrs]
    exact ⟨a1, a2, a3⟩
theorem sp_mwb {s c e lev : Nat} (hd : 45 ≤ d) (hD : mD o ad) (hC : ∀ j, j < 22100 → C 1 j = sb_b (R j)) (hR : ∀ j, R j < 256) (hw : mW R 0 n B) (hS : mS3 C S) (hs : s < 3) (he : q_me B n e lev) (hlev : lev < 17) (hc : 1 ≤ c ∧ c ≤ 6) (hk : c = 2 → B e = 4)
    (hq : ∀ C', mS3 C' (uf S s ((q_wb (q_ord B B 17) B c e).getD [])) → mFr C C' → Q (some (.int (q_t (q_wb (q_ord B B 17) B c e).isSome))) (mH h o ad I C')) : mm_Go E d 150 (mm_blk 150 0) [.ref o, .int (nI s), .int (nI c), .int (nI e), mm_un, mm_un] [] (mH h o ad I C) Q := by
  have hm : ∀ (I : Nat → Int32) (C' : Nat → Nat → Int32), mFr C C' → mSt (mH h o ad I C') o (ad 1) R := fun I C' hf => mH_st hD (fun j hj => by rw [hf 1 (by decide) (by decide)]; exact hC j hj) hR
  have hS1 := mS3_zero (s := s) hS
  have hF1 : mFr C (uf C 14 (uf (C 14) s (nI 0))) := mFr_14 (mFr_r C)
  have hok := q_me_ok he
  have hcl := q_me_cls he
  have hcr := hcl.2.2.2.2.2.2
  have hBe := hw.2.2.2.1 e
  unfold q_wb at hq
  repeat (first | refine gi_con ?_ | refine gi_bip (Nat.le_of_ble_eq_true rfl) ?_ | refine gi_sip (Nat.le_of_ble_eq_true rfl) ?_ | refine gi_ldc ?_ | refine gi_add ?_ | refine gi_inc rfl ?_ | refine gi_sub (by omega) ?_ | refine gi_mul ?_ | refine go_nx rfl ?_)
  refine gm_get (.ref (ad 14)) rfl rfl ?_
  repeat (first | refine gi_con ?_ | refine gi_bip (Nat.le_of_ble_eq_true rfl) ?_ | refine gi_sip (Nat.le_of_ble_eq_true rfl) ?_ | refine gi_ldc ?_ | refine gi_add ?_ | refine gi_inc rfl ?_ | refine gi_sub (by omega) ?_ | refine gi_mul ?_ | refine go_nx rfl ?_)
  refine gm_ist hD (by decide) rfl (show s < 3 from hs) (by decide) ?_
  repeat (first | refine gi_con ?_ | refine gi_bip (Nat.le_of_ble_eq_true rfl) ?_ | refine gi_sip (Nat.le_of_ble_eq_true rfl) ?_ | refine gi_ldc ?_ | refine gi_add ?_ | refine gi_inc rfl ?_ | refine gi_sub (by omega) ?_ | refine gi_mul ?_ | refine go_nx rfl ?_)
  first | refine gb_lt (by omega) (by omega) (fun c1 => ?_) (fun c1 => ?_) | refine gb_ge (by omega) (by omega) (fun c1 => ?_) (fun c1 => ?_) | refine gb_gt (by omega) (by omega) (fun c1 => ?_) (fun c1 => ?_) | refine gb_le (by omega) (by omega) (fun c1 => ?_) (fun c1 => ?_) | refine gb_eq (by omega) (by omega) (fun c1 => ?_) (fun c1 => ?_) | refine gb_ne (by omega) (by omega) (fun c1 => ?_) (fun c1 => ?_)
  · rw [if_neg c1] at hq
    repeat (first | refine gi_con ?_ | refine gi_bip (Nat.le_of_ble_eq_true rfl) ?_ | refine gi_sip (Nat.le_of_ble_eq_true rfl) ?_ | refine gi_ldc ?_ | refine gi_add ?_ | refine gi_inc rfl ?_ | refine gi_sub (by omega) ?_ | refine gi_mul ?_ | refine go_nx rfl ?_)
    refine go_step ?_
    refine g_callV (by decide) (by decide) (Nat.le_of_ble_eq_true rfl) (Nat.le_of_ble_eq_true rfl) mH_rcv (by omega) (Nat.le_of_ble_eq_true rfl) rfl ?_
    refine z_at (hm _ _ hF1) hw hok.1 ?_
    repeat (first | refine gi_con ?_ | refine gi_bip (Nat.le_of_ble_eq_true rfl) ?_ | refine gi_sip (Nat.le_of_ble_eq_true rfl) ?_ | refine gi_ldc ?_ | refine gi_add ?_ | refine gi_inc rfl ?_ | refine gi_sub (by omega) ?_ | refine gi_mul ?_ | refine go_nx rfl ?_)
    first | refine gb_lt (by omega) (by omega) (fun c2 => ?_) (fun c2 => ?_) | refine gb_ge (by omega) (by omega) (fun c2 => ?_) (fun c2 => ?_) | refine gb_gt (by omega) (by omega) (fun c2 => ?_) (fun c2 => ?_) | refine gb_le (by omega) (by omega) (fun c2 => ?_) (fun c2 => ?_) | refine gb_eq (by omega) (by omega) (fun c2 => ?_) (fun c2 => ?_) | refine gb_ne (by omega) (by omega) (fun c2 => ?_) (fun c2 => ?_)
    · rw [if_neg c2] at hq
      repeat (first | refine gi_con ?_ | refine gi_bip (Nat.le_of_ble_eq_true rfl) ?_ | refine gi_sip (Nat.le_of_ble_eq_true rfl) ?_ | refine gi_ldc ?_ | refine gi_add ?_ | refine gi_inc rfl ?_ | refine gi_sub (by omega) ?_ | refine gi_mul ?_ | refine go_nx rfl ?_)
      refine go_step ?_
      refine g_callV (by decide) (by decide) (Nat.le_of_ble_eq_true rfl) (Nat.le_of_ble_eq_true rfl) mH_rcv (by omega) (Nat.le_of_ble_eq_true rfl) rfl ?_
      refine z_at (hm _ _ hF1) hw hok.1 ?_
      repeat (first | refine gi_con ?_ | refine gi_bip (Nat.le_of_ble_eq_true rfl) ?_ | refine gi_sip (Nat.le_of_ble_eq_true rfl) ?_ | refine gi_ldc ?_ | refine gi_add ?_ | refine gi_inc rfl ?_ | refine gi_sub (by omega) ?_ | refine gi_mul ?_ | refine go_nx rfl ?_)
      refine go_step ?_
      refine g_call (k := 154) rfl (by omega) (Nat.le_of_ble_eq_true rfl) rfl ?_
      refine sp_mcls (q_me_kind he) ?_
      have three : (c = 1 ∨ q_cls (B e) = 1 ∧ (c = 4 ∨ c = 6)) → mm_Go E d 150 (mm_blk 150 3) [.ref o, .int (nI s), .int (nI c), .int (nI e), .int (nI (q_cls (B e))), mm_un] [] (mH h o ad I (uf C 14 (uf (C 14) s (nI 0)))) Q := by
        intro hh
        rw [if_pos hh] at hq
        repeat (first | refine gi_con ?_ | refine gi_bip (Nat.le_of_ble_eq_true rfl) ?_ | refine gi_sip (Nat.le_of_ble_eq_true rfl) ?_ | refine gi_ldc ?_ | refine gi_add ?_ | refine gi_inc rfl ?_ | refine gi_sub (by omega) ?_ | refine gi_mul ?_ | refine go_nx rfl ?_)
        refine go_step ?_
        refine g_callV (by decide) (by decide) (Nat.le_of_ble_eq_true rfl) (Nat.le_of_ble_eq_true rfl) mH_rcv (by omega) (Nat.le_of_ble_eq_true rfl) rfl ?_
        refine sp_mwriteValue (by omega) hD (fun j hj => by rw [hF1 1 (by decide) (by decide)]; exact hC j hj) hR hw he hS1 hs (by rw [uf_at]; decide) (fun C2 hS2 hF2 => ?_)
        rw [uf_uf, uf_at] at hS2
        repeat (first | refine gi_con ?_ | refine gi_bip (Nat.le_of_ble_eq_true rfl) ?_ | refine gi_sip (Nat.le_of_ble_eq_true rfl) ?_ | refine gi_ldc ?_ | refine gi_add ?_ | refine gi_inc rfl ?_ | refine gi_sub (by omega) ?_ | refine gi_mul ?_ | refine go_nx rfl ?_)
        refine go_jp rfl ?_
        repeat (first | refine gi_con ?_ | refine gi_bip (Nat.le_of_ble_eq_true rfl) ?_ | refine gi_sip (Nat.le_of_ble_eq_true rfl) ?_ | refine gi_ldc ?_ | refine gi_add ?_ | refine gi_inc rfl ?_ | refine gi_sub (by omega) ?_ | refine gi_mul ?_ | refine go_nx rfl ?_)
        refine go_rt rfl ?_
        exact hq C2 hS2 (mFr_t hF1 hF2)
      have four : ¬ (c = 1 ∨ q_cls (B e) = 1 ∧ (c = 4 ∨ c = 6)) → mm_Go E d 150 (mm_blk 150 4) [.ref o, .int (nI s), .int (nI c), .int (nI e), .int (nI (q_cls (B e))), mm_un] [] (mH h o ad I (uf C 14 (uf (C 14) s (nI 0)))) Q := by
        intro hh
        rw [if_neg hh] at hq
        repeat (first | refine gi_con ?_ | refine gi_bip (Nat.le_of_ble_eq_true rfl) ?_ | refine gi_sip (Nat.le_of_ble_eq_true rfl) ?_ | refine gi_ldc ?_ | refine gi_add ?_ | refine gi_inc rfl ?_ | refine gi_sub (by omega) ?_ | refine gi_mul ?_ | refine go_nx rfl ?_)
        first | refine gb_lt (by omega) (by omega) (fun c3 => ?_) (fun c3 => ?_) | refine gb_ge (by omega) (by omega) (fun c3 => ?_) (fun c3 => ?_) | refine gb_gt (by omega) (by omega) (fun c3 => ?_) (fun c3 => ?_) | refine gb_le (by omega) (by omega) (fun c3 => ?_) (fun c3 => ?_) | refine gb_eq (by omega) (by omega) (fun c3 => ?_) (fun c3 => ?_) | refine gb_ne (by omega) (by omega) (fun c3 => ?_) (fun c3 => ?_)
        · rw [if_neg (by omega)] at hq
          repeat (first | refine gi_con ?_ | refine gi_bip (Nat.le_of_ble_eq_true rfl) ?_ | refine gi_sip (Nat.le_of_ble_eq_true rfl) ?_ | refine gi_ldc ?_ | refine gi_add ?_ | refine gi_inc rfl ?_ | refine gi_sub (by omega) ?_ | refine gi_mul ?_ | refine go_nx rfl ?_)
          refine go_rt rfl ?_
          exact hq _ hS1 hF1
        rw [if_pos (by omega)] at hq
        have seven : mm_Go E d 150 (mm_blk 150 7) [.ref o, .int (nI s), .int (nI c), .int (nI e), .int (nI (q_cls (B e))), mm_un] [.int (nI (q_in c))] (mH h o ad I (uf C 14 (uf (C 14) s (nI 0)))) Q := by
          repeat (first | refine gi_con ?_ | refine gi_bip (Nat.le_of_ble_eq_true rfl) ?_ | refine gi_sip (Nat.le_of_ble_eq_true rfl) ?_ | refine gi_ldc ?_ | refine gi_add ?_ | refine gi_inc rfl ?_ | refine gi_sub (by omega) ?_ | refine gi_mul ?_ | refine go_nx rfl ?_)
          first | refine gb_lt (by omega) (by omega) (fun c4 => ?_) (fun c4 => ?_) | refine gb_ge (by omega) (by omega) (fun c4 => ?_) (fun c4 => ?_) | refine gb_gt (by omega) (by omega) (fun c4 => ?_) (fun c4 => ?_) | refine gb_le (by omega) (by omega) (fun c4 => ?_) (fun c4 => ?_) | refine gb_eq (by omega) (by omega) (fun c4 => ?_) (fun c4 => ?_) | refine gb_ne (by omega) (by omega) (fun c4 => ?_) (fun c4 => ?_)
          · rw [if_neg (by omega)] at hq
            repeat (first | refine gi_con ?_ | refine gi_bip (Nat.le_of_ble_eq_true rfl) ?_ | refine gi_sip (Nat.le_of_ble_eq_true rfl) ?_ | refine gi_ldc ?_ | refine gi_add ?_ | refine gi_inc rfl ?_ | refine gi_sub (by omega) ?_ | refine gi_mul ?_ | refine go_nx rfl ?_)
            refine go_step ?_
            refine g_callV (by decide) (by decide) (Nat.le_of_ble_eq_true rfl) (Nat.le_of_ble_eq_true rfl) mH_rcv (by omega) (Nat.le_of_ble_eq_true rfl) rfl ?_
            refine sp_mwriteE (lo := (q_cls (B e), 1, q_in c, e)) (hi := (q_cls (B e), 2, 0, 0)) hD hS1 hs (by rw [uf_at]; decide) (fun C2 hS2 hF2 => ?_)
            rw [uf_uf, uf_at] at hS2
            repeat (first | refine gi_con ?_ | refine gi_bip (Nat.le_of_ble_eq_true rfl) ?_ | refine gi_sip (Nat.le_of_ble_eq_true rfl) ?_ | refine gi_ldc ?_ | refine gi_add ?_ | refine gi_inc rfl ?_ | refine gi_sub (by omega) ?_ | refine gi_mul ?_ | refine go_nx rfl ?_)
            refine go_jp rfl ?_
            repeat (first | refine gi_con ?_ | refine gi_bip (Nat.le_of_ble_eq_true rfl) ?_ | refine gi_sip (Nat.le_of_ble_eq_true rfl) ?_ | refine gi_ldc ?_ | refine gi_add ?_ | refine gi_inc rfl ?_ | refine gi_sub (by omega) ?_ | refine gi_mul ?_ | refine go_nx rfl ?_)
            refine go_rt rfl ?_
            exact hq C2 hS2 (mFr_t hF1 hF2)
          · rw [if_pos c4] at hq
            repeat (first | refine gi_con ?_ | refine gi_bip (Nat.le_of_ble_eq_true rfl) ?_ | refine gi_sip (Nat.le_of_ble_eq_true rfl) ?_ | refine gi_ldc ?_ | refine gi_add ?_ | refine gi_inc rfl ?_ | refine gi_sub (by omega) ?_ | refine gi_mul ?_ | refine go_nx rfl ?_)
            refine go_step ?_
            refine g_callV (by decide) (by decide) (Nat.le_of_ble_eq_true rfl) (Nat.le_of_ble_eq_true rfl) mH_rcv (by omega) (Nat.le_of_ble_eq_true rfl) rfl ?_
            refine sp_mwriteE (lo := (q_cls (B e), 0, 0, 0)) (hi := (q_cls (B e), 1, q_in c, e)) hD hS1 hs (by rw [uf_at]; decide) (fun C2 hS2 hF2 => ?_)
            rw [uf_uf, uf_at] at hS2
            repeat (first | refine gi_con ?_ | refine gi_bip (Nat.le_of_ble_eq_true rfl) ?_ | refine gi_sip (Nat.le_of_ble_eq_true rfl) ?_ | refine gi_ldc ?_ | refine gi_add ?_ | refine gi_inc rfl ?_ | refine gi_sub (by omega) ?_ | refine gi_mul ?_ | refine go_nx rfl ?_)
            refine go_jp rfl ?_
            repeat (first | refine gi_con ?_ | refine gi_bip (Nat.le_of_ble_eq_true rfl) ?_ | refine gi_sip (Nat.le_of_ble_eq_true rfl) ?_ | refine gi_ldc ?_ | refine gi_add ?_ | refine gi_inc rfl ?_ | refine gi_sub (by omega) ?_ | refine gi_mul ?_ | refine go_nx rfl ?_)
            refine go_rt rfl ?_
            exact hq C2 hS2 (mFr_t hF1 hF2)
        have five : (c = 4 ∨ c = 6) → mm_Go E d 150 (mm_blk 150 5) [.ref o, .int (nI s), .int (nI c), .int (nI e), .int (nI (q_cls (B e))), mm_un] [] (mH h o ad I (uf C 14 (uf (C 14) s (nI 0)))) Q := by
          intro h46
          rw [show q_in c = 1 from if_pos h46] at seven
          repeat (first | refine gi_con ?_ | refine gi_bip (Nat.le_of_ble_eq_true rfl) ?_ | refine gi_sip (Nat.le_of_ble_eq_true rfl) ?_ | refine gi_ldc ?_ | refine gi_add ?_ | refine gi_inc rfl ?_ | refine gi_sub (by omega) ?_ | refine gi_mul ?_ | refine go_nx rfl ?_)
          refine go_jp rfl ?_
          exact seven
        repeat (first | refine gi_con ?_ | refine gi_bip (Nat.le_of_ble_eq_true rfl) ?_ | refine gi_sip (Nat.le_of_ble_eq_true rfl) ?_ | refine gi_ldc ?_ | refine gi_add ?_ | refine gi_inc rfl ?_ | refine gi_sub (by omega) ?_ | refine gi_mul ?_ | refine go_nx rfl ?_)
        first | refine gb_lt (by omega) (by omega) (fun c4 => ?_) (fun c4 => ?_) | refine gb_ge (by omega) (by omega) (fun c4 => ?_) (fun c4 => ?_) | refine gb_gt (by omega) (by omega) (fun c4 => ?_) (fun c4 => ?_) | refine gb_le (by omega) (by omega) (fun c4 => ?_) (fun c4 => ?_) | refine gb_eq (by omega) (by omega) (fun c4 => ?_) (fun c4 => ?_) | refine gb_ne (by omega) (by omega) (fun c4 => ?_) (fun c4 => ?_)
        · exact five (Or.inl c4)
        repeat (first | refine gi_con ?_ | refine gi_bip (Nat.le_of_ble_eq_true rfl) ?_ | refine gi_sip (Nat.le_of_ble_eq_true rfl) ?_ | refine gi_ldc ?_ | refine gi_add ?_ | refine gi_inc rfl ?_ | refine gi_sub (by omega) ?_ | refine gi_mul ?_ | refine go_nx rfl ?_)
        first | refine gb_lt (by omega) (by omega) (fun c5 => ?_) (fun c5 => ?_) | refine gb_ge (by omega) (by omega) (fun c5 => ?_) (fun c5 => ?_) | refine gb_gt (by omega) (by omega) (fun c5 => ?_) (fun c5 => ?_) | refine gb_le (by omega) (by omega) (fun c5 => ?_) (fun c5 => ?_) | refine gb_eq (by omega) (by omega) (fun c5 => ?_) (fun c5 => ?_) | refine gb_ne (by omega) (by omega) (fun c5 => ?_) (fun c5 => ?_)
        · rw [show q_in c = 0 from if_neg (fun q => q.elim c4 c5)] at seven
          repeat (first | refine gi_con ?_ | refine gi_bip (Nat.le_of_ble_eq_true rfl) ?_ | refine gi_sip (Nat.le_of_ble_eq_true rfl) ?_ | refine gi_ldc ?_ | refine gi_add ?_ | refine gi_inc rfl ?_ | refine gi_sub (by omega) ?_ | refine gi_mul ?_ | refine go_nx rfl ?_)
          refine go_jp rfl ?_
          exact seven
        · refine go_jp rfl ?_
          exact five (Or.inr c5)
      repeat (first | refine gi_con ?_ | refine gi_bip (Nat.le_of_ble_eq_true rfl) ?_ | refine gi_sip (Nat.le_of_ble_eq_true rfl) ?_ | refine gi_ldc ?_ | refine gi_add ?_ | refine gi_inc rfl ?_ | refine gi_sub (by omega) ?_ | refine gi_mul ?_ | refine go_nx rfl ?_)
      first | refine gb_lt (by omega) (by omega) (fun c3 => ?_) (fun c3 => ?_) | refine gb_ge (by omega) (by omega) (fun c3 => ?_) (fun c3 => ?_) | refine gb_gt (by omega) (by omega) (fun c3 => ?_) (fun c3 => ?_) | refine gb_le (by omega) (by omega) (fun c3 => ?_) (fun c3 => ?_) | refine gb_eq (by omega) (by omega) (fun c3 => ?_) (fun c3 => ?_) | refine gb_ne (by omega) (by omega) (fun c3 => ?_) (fun c3 => ?_)
      · exact three (Or.inl c3)
      repeat (first | refine gi_con ?_ | refine gi_bip (Nat.le_of_ble_eq_true rfl) ?_ | refine gi_sip (Nat.le_of_ble_eq_true rfl) ?_ | refine gi_ldc ?_ | refine gi_add ?_ | refine gi_inc rfl ?_ | refine gi_sub (by omega) ?_ | refine gi_mul ?_ | refine go_nx rfl ?_)
      first | refine gb_lt (by omega) (by omega) (fun c4 => ?_) (fun c4 => ?_) | refine gb_ge (by omega) (by omega) (fun c4 => ?_) (fun c4 => ?_) | refine gb_gt (by omega) (by omega) (fun c4 => ?_) (fun c4 => ?_) | refine gb_le (by omega) (by omega) (fun c4 => ?_) (fun c4 => ?_) | refine gb_eq (by omega) (by omega) (fun c4 => ?_) (fun c4 => ?_) | refine gb_ne (by omega) (by omega) (fun c4 => ?_) (fun c4 => ?_)
      · exact four (fun q => q.elim c3 (fun q => c4 q.1))
      repeat (first | refine gi_con ?_ | refine gi_bip (Nat.le_of_ble_eq_true rfl) ?_ | refine gi_sip (Nat.le_of_ble_eq_true rfl) ?_ | refine gi_ldc ?_ | refine gi_add ?_ | refine gi_inc rfl ?_ | refine gi_sub (by omega) ?_ | refine gi_mul ?_ | refine go_nx rfl ?_)
      first | refine gb_lt (by omega) (by omega) (fun c5 => ?_) (fun c5 => ?_) | refine gb_ge (by omega) (by omega) (fun c5 => ?_) (fun c5 => ?_) | refine gb_gt (by omega) (by omega) (fun c5 => ?_) (fun c5 => ?_) | refine gb_le (by omega) (by omega) (fun c5 => ?_) (fun c5 => ?_) | refine gb_eq (by omega) (by omega) (fun c5 => ?_) (fun c5 => ?_) | refine gb_ne (by omega) (by omega) (fun c5 => ?_) (fun c5 => ?_)
      · exact three (Or.inr ⟨c4, Or.inl c5⟩)
      repeat (first | refine gi_con ?_ | refine gi_bip (Nat.le_of_ble_eq_true rfl) ?_ | refine gi_sip (Nat.le_of_ble_eq_true rfl) ?_ | refine gi_ldc ?_ | refine gi_add ?_ | refine gi_inc rfl ?_ | refine gi_sub (by omega) ?_ | refine gi_mul ?_ | refine go_nx rfl ?_)
      first | refine gb_lt (by omega) (by omega) (fun c6 => ?_) (fun c6 => ?_) | refine gb_ge (by omega) (by omega) (fun c6 => ?_) (fun c6 => ?_) | refine gb_gt (by omega) (by omega) (fun c6 => ?_) (fun c6 => ?_) | refine gb_le (by omega) (by omega) (fun c6 => ?_) (fun c6 => ?_) | refine gb_eq (by omega) (by omega) (fun c6 => ?_) (fun c6 => ?_) | refine gb_ne (by omega) (by omega) (fun c6 => ?_) (fun c6 => ?_)
      · exact four (fun q => q.elim c3 (fun q => q.2.elim c5 c6))
      · refine go_jp rfl ?_
        exact three (Or.inr ⟨c4, Or.inr c6⟩)
    · rw [if_pos c2] at hq
      repeat (first | refine gi_con ?_ | refine gi_bip (Nat.le_of_ble_eq_true rfl) ?_ | refine gi_sip (Nat.le_of_ble_eq_true rfl) ?_ | refine gi_ldc ?_ | refine gi_add ?_ | refine gi_inc rfl ?_ | refine gi_sub (by omega) ?_ | refine gi_mul ?_ | refine go_nx rfl ?_)
      refine go_rt rfl ?_
      exact hq _ hS1 hF1
  · rw [if_pos c1] at hq
    repeat (first | refine gi_con ?_ | refine gi_bip (Nat.le_of_ble_eq_true rfl) ?_ | refine gi_sip (Nat.le_of_ble_eq_true rfl) ?_ | refine gi_ldc ?_ | refine gi_add ?_ | refine gi_inc rfl ?_ | refine gi_sub (by omega) ?_ | refine gi_mul ?_ | refine go_nx rfl ?_)
    refine go_step ?_
    refine g_callV (by decide) (by decide) (Nat.le_of_ble_eq_true rfl) (Nat.le_of_ble_eq_true rfl) mH_rcv (by omega) (Nat.le_of_ble_eq_true rfl) rfl ?_
    refine sp_mitems (l0 := lev) (by omega) hD (fun j hj => by rw [hF1 1 (by decide) (by decide)]; exact hC j hj) hR hw hS1 hs (uf_at _ _ _) he hlev (hk c1) (fun C2 hS2 hF2 => ?_)
    rw [uf_uf] at hS2
    repeat (first | refine gi_con ?_ | refine gi_bip (Nat.le_of_ble_eq_true rfl) ?_ | refine gi_sip (Nat.le_of_ble_eq_true rfl) ?_ | refine gi_ldc ?_ | refine gi_add ?_ | refine gi_inc rfl ?_ | refine gi_sub (by omega) ?_ | refine gi_mul ?_ | refine go_nx rfl ?_)
    have hfit : ∀ b : Bool, mm_fit 1 (.int (q_t b)) = true := by intro b; cases b <;> rfl
    refine go_rt (v := some (.int (q_t (q_items (q_ord B B 17) B e).isSome))) ?_ (hq C2 hS2 (mFr_t hF1 hF2))
    show (if mm_fit 1 (.int (q_t (q_items (q_ord B B 17) B e).isSome)) = true then _ else _) = _
    rw [if_pos (hfit _)]
end M
