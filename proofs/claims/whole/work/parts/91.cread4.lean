/-! THE CLASS: readParts -/
section C
variable {E : mmE} {row n : Nat} {B : Nat → Nat}
theorem bRow_eq {h h' : mmH} (hr : bRow h row n B) (he : h'.2.2 row = h.2.2 row) : bRow h' row n B := by
  obtain ⟨r1, ⟨f, r2, r3⟩, r4⟩ := hr
  exact ⟨r1, ⟨f, by rw [he]; exact r2, r3⟩, r4⟩
theorem bRow_ne {h : mmH} {b : Nat} {c : Nat × List Value} (hr : bRow h row n B) (hb : h.2.2 b = some (.inr c)) : row ≠ b := fun q => by
  obtain ⟨-, ⟨f, r2, -⟩, -⟩ := hr
  rw [q, hb] at r2
  cases r2
theorem bRow_ned {h : mmH} {a ed N : Nat} {l : List Nat} (hE : sE E) (hk : hOk E h) (hr : bRow h row n B) (ha : aL E h a ed N l) : row ≠ ed := by
  obtain ⟨-, ⟨f, r2, -⟩, -⟩ := hr
  exact aL_edn hE hk ha r2 (fun _ _ z => by cases z)
theorem set9 {fsw : List Value} (h9 : fsw[9]? = some .null) : fsw.set 9 .null = fsw := by
  apply List.ext_getElem?
  intro i
  by_cases hi : i = 9
  · subst hi
    rw [h9]
    have : 9 < fsw.length := by
      by_cases hl : 9 < fsw.length
      · exact hl
      · rw [List.getElem?_eq_none (by omega)] at h9
        cases h9
    rw [List.getElem?_set_self this]
  · rw [List.getElem?_set_ne (Ne.symm hi)]
theorem q_preL_snoc (k : Nat) (l : List Nat) (p : Nat) : q_preL B k (l ++ [p]) = q_preL B k l ++ (p :: q_sub2 B k p) := by
  unfold q_preL q_sub2
  rw [List.flatMap_append]
  simp
theorem q_run_last {p xl : Nat} : ∀ {l : List Nat} {x : Nat}, q_run B p x (l ++ [xl]) → q_run B xl x l ∧ q_next B xl = p := by
  intro l
  induction l with
  | nil =>
    intro x hx
    obtain ⟨h1, h2⟩ := hx
    subst h1
    exact ⟨rfl, h2⟩
  | cons y l ih =>
    intro x hx
    obtain ⟨h1, h2⟩ := hx
    obtain ⟨h3, h4⟩ := ih h2
    exact ⟨⟨h1, h3⟩, h4⟩
theorem q_run_le {p : Nat} : ∀ {l : List Nat} {x : Nat}, q_run B p x l → x ≤ p ∧ ∀ y ∈ l, q_next B y ≤ p := by
  intro l
  induction l with
  | nil =>
    intro x hx
    have hx : x = p := hx
    exact ⟨by omega, fun y hy => absurd hy List.not_mem_nil⟩
  | cons y l ih =>
    intro x hx
    obtain ⟨h1, h2⟩ := hx
    obtain ⟨h3, h4⟩ := ih h2
    have := q_val_ge B x
    have : x ≤ q_next B x := by unfold q_next; omega
    refine ⟨by omega, fun z hz => ?_⟩
    rcases List.mem_cons.mp hz with hz | hz
    · rw [hz, h1]
      exact h3
    · exact h4 z hz
theorem sp_rparts (hE : sE E) (hSt : sStr E) (hrow : q_row B n) : ∀ (k d : Nat), 3 * k + 12 ≤ d → k ≤ 16 → RPs E d row n B k := by
  intro k
  induction k with
  | zero =>
    intro d hd hk h r la ed cap Ls w fsw v lim N wk Q hr hw hw12 hw1 hwk hw9 hv hl hS hF
    obtain ⟨h1, h2, h3, h4, h5, h6⟩ := hr
    have hn := h4.1
    have h1' : h.2.2 r = some (.inr (2, [.ref la, .ref row, .int (nI v), .int (q_t false)])) := h1
    have hrw : w ≠ r := fun q => by rw [q, h1'] at hw; cases hw
    have bad : ∀ (A' : Nat) (w0 : Bool) (x5 : Int32), v ≤ A' → A' ≤ lim → mm_Go E d 37 (mm_blk 37 1) [.ref r, .ref w, .int (nI lim), .int (nI (17 - 0)), .int (nI v), .int x5, mm_un, mm_un, mm_un, mm_un] [] (mm_set h r (rdC la row A' w0)) Q := by
      intro A' w0 x5 hA1 hA2
      have hcr : (mm_set h r (rdC la row A' w0)).2.2 r = some (.inr (2, [.ref la, .ref row, .int (nI A'), .int (q_t w0)])) := hs_at
      repeat (first | refine gi_con ?_ | refine gi_bip (Nat.le_of_ble_eq_true rfl) ?_ | refine gi_sip (Nat.le_of_ble_eq_true rfl) ?_ | refine gi_ldc ?_ | refine gi_add ?_ | refine gi_inc rfl ?_ | refine gi_sub (by omega) ?_ | refine gi_mul ?_ | refine go_nx rfl ?_)
      refine gc_put (fs' := [.ref la, .ref row, .int (nI A'), .int (q_t true)]) hcr rfl (Nat.le_of_ble_eq_true rfl) rfl rfl ?_
      rw [hs_set]
      refine go_rt rfl ?_
      exact hF _ A' cap .null rfl hs_at hA2 (hOk_set2 h3 h1') (hFr_set (Or.inl rfl)) ⟨by show h.1 + v ≤ h.1 + A'; omega, by show h.2.1 + 4 * cap + 6 * v ≤ h.2.1 + 6 * A' + 4 * cap; omega, hA1, Nat.le_refl _⟩ (by omega) (by rw [hs_ne hrw, set9 hw9]; exact hw)
    repeat (first | refine gi_con ?_ | refine gi_bip (Nat.le_of_ble_eq_true rfl) ?_ | refine gi_sip (Nat.le_of_ble_eq_true rfl) ?_ | refine gi_ldc ?_ | refine gi_add ?_ | refine gi_inc rfl ?_ | refine gi_sub (by omega) ?_ | refine gi_mul ?_ | refine go_nx rfl ?_)
    refine gf_get _ h1' (by decide) rfl ?_
    repeat (first | refine gi_con ?_ | refine gi_bip (Nat.le_of_ble_eq_true rfl) ?_ | refine gi_sip (Nat.le_of_ble_eq_true rfl) ?_ | refine gi_ldc ?_ | refine gi_add ?_ | refine gi_inc rfl ?_ | refine gi_sub (by omega) ?_ | refine gi_mul ?_ | refine go_nx rfl ?_)
    refine go_step ?_
    refine g_callV (by decide) (by decide) (Nat.le_of_ble_eq_true rfl) (Nat.le_of_ble_eq_true rfl) (o_rcv h1' rfl (by decide)) (by omega) (Nat.le_of_ble_eq_true rfl) rfl ?_
    refine sp_rnum (by omega) h1 h4 hv (by omega) (by omega) (fun hle => ?_) (fun hlt => ?_)
    · have hcr : (mm_set h r (rdC la row (v + 4) false)).2.2 r = some (.inr (2, [.ref la, .ref row, .int (nI (v + 4)), .int (q_t false)])) := hs_at
      repeat (first | refine gi_con ?_ | refine gi_bip (Nat.le_of_ble_eq_true rfl) ?_ | refine gi_sip (Nat.le_of_ble_eq_true rfl) ?_ | refine gi_ldc ?_ | refine gi_add ?_ | refine gi_inc rfl ?_ | refine gi_sub (by omega) ?_ | refine gi_mul ?_ | refine go_nx rfl ?_)
      refine gf_get _ hcr (by decide) rfl ?_
      refine gt_ne (fun c => by cases c) (fun _ => ?_)
      repeat (first | refine gi_con ?_ | refine gi_bip (Nat.le_of_ble_eq_true rfl) ?_ | refine gi_sip (Nat.le_of_ble_eq_true rfl) ?_ | refine gi_ldc ?_ | refine gi_add ?_ | refine gi_inc rfl ?_ | refine gi_sub (by omega) ?_ | refine gi_mul ?_ | refine go_nx rfl ?_)
      first | refine gb_lt (by omega) (by omega) (fun c => ?_) (fun c => ?_) | refine gb_ge (by omega) (by omega) (fun c => ?_) (fun c => ?_) | refine gb_gt (by omega) (by omega) (fun c => ?_) (fun c => ?_) | refine gb_le (by omega) (by omega) (fun c => ?_) (fun c => ?_) | refine gb_eq (by omega) (by omega) (fun c => ?_) (fun c => ?_) | refine gb_ne (by omega) (by omega) (fun c => ?_) (fun c => ?_)
      · exact bad _ _ _ (by omega) hle
      · omega
    · have hcr : (mm_set h r (rdC la row v true)).2.2 r = some (.inr (2, [.ref la, .ref row, .int (nI v), .int (q_t true)])) := hs_at
      repeat (first | refine gi_con ?_ | refine gi_bip (Nat.le_of_ble_eq_true rfl) ?_ | refine gi_sip (Nat.le_of_ble_eq_true rfl) ?_ | refine gi_ldc ?_ | refine gi_add ?_ | refine gi_inc rfl ?_ | refine gi_sub (by omega) ?_ | refine gi_mul ?_ | refine go_nx rfl ?_)
      refine gf_get _ hcr (by decide) rfl ?_
      refine gt_ne (fun _ => ?_) (fun c => by cases c)
      exact bad _ _ _ (Nat.le_refl _) hv
  | succ k ih =>
    intro d hd hk h r la ed cap Ls w fsw v lim N wk Q hr hw hw12 hw1 hwk hw9 hv hl hS hF
    have hr0 := hr
    obtain ⟨h1, h2, h3, h4, h5, h6⟩ := hr
    have hn := h4.1
    have hs := q_sz_lt h4.2.2.1 v
    have h1' : h.2.2 r = some (.inr (2, [.ref la, .ref row, .int (nI v), .int (q_t false)])) := h1
    have hrw : w ≠ r := fun q => by rw [q, h1'] at hw; cases hw
    obtain ⟨mc, hla⟩ := h2.1
    have hrl := hOk_lt h3 h1'
    have hwl := hOk_lt h3 hw
    have hll := hOk_lt h3 hla
    have hel := aL_ed hE h3 h2
    have hrowne : row ≠ r ∧ row ≠ la ∧ row ≠ ed ∧ row ≠ w := ⟨bRow_ne h4 h1', bRow_ne h4 hla, bRow_ned hE h3 h4 h2, bRow_ne h4 hw⟩
    have hrowl : row < h.1 := by
      obtain ⟨-, ⟨f, r2, -⟩, -⟩ := h4
      exact hOk_lt h3 r2
    have hrowFr : ∀ {h2 : mmH}, hFr h h2 (rdW r la ed w) → bRow h2 row n B := fun hf => bRow_eq h4 (hf.2 row hrowl (fun q => by
      rcases q with q | q | q | q
      · exact hrowne.1 q
      · exact hrowne.2.1 q
      · exact hrowne.2.2.1 q
      · exact hrowne.2.2.2 q))
    have bad : ∀ (A' : Nat) (w0 : Bool) (x5 : Int32), v ≤ A' → A' ≤ lim → q_box qtt B (k + 1) v lim (decide (wk = 4)) = false → mm_Go E d 37 (mm_blk 37 1) [.ref r, .ref w, .int (nI lim), .int (nI (17 - (k + 1))), .int (nI v), .int x5, mm_un, mm_un, mm_un, mm_un] [] (mm_set h r (rdC la row A' w0)) Q := by
      intro A' w0 x5 hA1 hA2 hbx
      have hcr : (mm_set h r (rdC la row A' w0)).2.2 r = some (.inr (2, [.ref la, .ref row, .int (nI A'), .int (q_t w0)])) := hs_at
      repeat (first | refine gi_con ?_ | refine gi_bip (Nat.le_of_ble_eq_true rfl) ?_ | refine gi_sip (Nat.le_of_ble_eq_true rfl) ?_ | refine gi_ldc ?_ | refine gi_add ?_ | refine gi_inc rfl ?_ | refine gi_sub (by omega) ?_ | refine gi_mul ?_ | refine go_nx rfl ?_)
      refine gc_put (fs' := [.ref la, .ref row, .int (nI A'), .int (q_t true)]) hcr rfl (Nat.le_of_ble_eq_true rfl) rfl rfl ?_
      rw [hs_set]
      refine go_rt rfl ?_
      exact hF _ A' cap .null hbx hs_at hA2 (hOk_set2 h3 h1') (hFr_set (Or.inl rfl)) ⟨by show h.1 + v ≤ h.1 + A'; omega, by show h.2.1 + 4 * cap + 6 * v ≤ h.2.1 + 6 * A' + 4 * cap; omega, hA1, Nat.le_refl _⟩ (by omega) (by rw [hs_ne hrw, set9 hw9]; exact hw)
    repeat (first | refine gi_con ?_ | refine gi_bip (Nat.le_of_ble_eq_true rfl) ?_ | refine gi_sip (Nat.le_of_ble_eq_true rfl) ?_ | refine gi_ldc ?_ | refine gi_add ?_ | refine gi_inc rfl ?_ | refine gi_sub (by omega) ?_ | refine gi_mul ?_ | refine go_nx rfl ?_)
    refine gf_get _ h1' (by decide) rfl ?_
    repeat (first | refine gi_con ?_ | refine gi_bip (Nat.le_of_ble_eq_true rfl) ?_ | refine gi_sip (Nat.le_of_ble_eq_true rfl) ?_ | refine gi_ldc ?_ | refine gi_add ?_ | refine gi_inc rfl ?_ | refine gi_sub (by omega) ?_ | refine gi_mul ?_ | refine go_nx rfl ?_)
    refine go_step ?_
    refine g_callV (by decide) (by decide) (Nat.le_of_ble_eq_true rfl) (Nat.le_of_ble_eq_true rfl) (o_rcv h1' rfl (by decide)) (by omega) (Nat.le_of_ble_eq_true rfl) rfl ?_
    refine sp_rnum (by omega) h1 h4 hv (by omega) (by omega) (fun hle => ?_) (fun hlt => ?_)
    rotate_left
    · have hcr : (mm_set h r (rdC la row v true)).2.2 r = some (.inr (2, [.ref la, .ref row, .int (nI v), .int (q_t true)])) := hs_at
      repeat (first | refine gi_con ?_ | refine gi_bip (Nat.le_of_ble_eq_true rfl) ?_ | refine gi_sip (Nat.le_of_ble_eq_true rfl) ?_ | refine gi_ldc ?_ | refine gi_add ?_ | refine gi_inc rfl ?_ | refine gi_sub (by omega) ?_ | refine gi_mul ?_ | refine go_nx rfl ?_)
      refine gf_get _ hcr (by decide) rfl ?_
      refine gt_ne (fun _ => ?_) (fun c => by cases c)
      exact bad _ _ _ (Nat.le_refl _) hv (by unfold q_box; rw [decide_eq_false (by omega)]; rfl)
    rw [q_le_4]
    have hcr : (mm_set h r (rdC la row (v + 4) false)).2.2 r = some (.inr (2, [.ref la, .ref row, .int (nI (v + 4)), .int (q_t false)])) := hs_at
    repeat (first | refine gi_con ?_ | refine gi_bip (Nat.le_of_ble_eq_true rfl) ?_ | refine gi_sip (Nat.le_of_ble_eq_true rfl) ?_ | refine gi_ldc ?_ | refine gi_add ?_ | refine gi_inc rfl ?_ | refine gi_sub (by omega) ?_ | refine gi_mul ?_ | refine go_nx rfl ?_)
    rw [lN_i]
    refine gf_get _ hcr (by decide) rfl ?_
    refine gt_ne (fun c => by cases c) (fun _ => ?_)
    repeat (first | refine gi_con ?_ | refine gi_bip (Nat.le_of_ble_eq_true rfl) ?_ | refine gi_sip (Nat.le_of_ble_eq_true rfl) ?_ | refine gi_ldc ?_ | refine gi_add ?_ | refine gi_inc rfl ?_ | refine gi_sub (by omega) ?_ | refine gi_mul ?_ | refine go_nx rfl ?_)
    first | refine gb_lt (by omega) (by omega) (fun c0 => ?_) (fun c0 => ?_) | refine gb_ge (by omega) (by omega) (fun c0 => ?_) (fun c0 => ?_) | refine gb_gt (by omega) (by omega) (fun c0 => ?_) (fun c0 => ?_) | refine gb_le (by omega) (by omega) (fun c0 => ?_) (fun c0 => ?_) | refine gb_eq (by omega) (by omega) (fun c0 => ?_) (fun c0 => ?_) | refine gb_ne (by omega) (by omega) (fun c0 => ?_) (fun c0 => ?_)
    · omega
    repeat (first | refine gi_con ?_ | refine gi_bip (Nat.le_of_ble_eq_true rfl) ?_ | refine gi_sip (Nat.le_of_ble_eq_true rfl) ?_ | refine gi_ldc ?_ | refine gi_add ?_ | refine gi_inc rfl ?_ | refine gi_sub (by omega) ?_ | refine gi_mul ?_ | refine go_nx rfl ?_)
    by_cases hbig : 2 ^ 31 ≤ q_sz B v
    · refine gn_lt hbig hs (by omega) ?_
      exact bad _ _ _ (by omega) hle (by unfold q_box; rw [decide_eq_false (show ¬ v + q_sz B v ≤ lim by omega), Bool.and_false]; rfl)
    first | refine gb_lt (by omega) (by omega) (fun c1 => ?_) (fun c1 => ?_) | refine gb_ge (by omega) (by omega) (fun c1 => ?_) (fun c1 => ?_) | refine gb_gt (by omega) (by omega) (fun c1 => ?_) (fun c1 => ?_) | refine gb_le (by omega) (by omega) (fun c1 => ?_) (fun c1 => ?_) | refine gb_eq (by omega) (by omega) (fun c1 => ?_) (fun c1 => ?_) | refine gb_ne (by omega) (by omega) (fun c1 => ?_) (fun c1 => ?_)
    · exact bad _ _ _ (by omega) hle (by unfold q_box; rw [decide_eq_false (show ¬ 5 ≤ q_sz B v by omega), Bool.and_false]; rfl)
    repeat (first | refine gi_con ?_ | refine gi_bip (Nat.le_of_ble_eq_true rfl) ?_ | refine gi_sip (Nat.le_of_ble_eq_true rfl) ?_ | refine gi_ldc ?_ | refine gi_add ?_ | refine gi_inc rfl ?_ | refine gi_sub (by omega) ?_ | refine gi_mul ?_ | refine go_nx rfl ?_)
    first | refine gb_lt (by omega) (by omega) (fun c2 => ?_) (fun c2 => ?_) | refine gb_ge (by omega) (by omega) (fun c2 => ?_) (fun c2 => ?_) | refine gb_gt (by omega) (by omega) (fun c2 => ?_) (fun c2 => ?_) | refine gb_le (by omega) (by omega) (fun c2 => ?_) (fun c2 => ?_) | refine gb_eq (by omega) (by omega) (fun c2 => ?_) (fun c2 => ?_) | refine gb_ne (by omega) (by omega) (fun c2 => ?_) (fun c2 => ?_)
    rotate_left
    · refine go_jp rfl ?_
      exact bad _ _ _ (by omega) hle (by unfold q_box; rw [decide_eq_false (show ¬ v + q_sz B v ≤ lim by omega), Bool.and_false]; rfl)
    clear bad
    have hlast : q_last B v + 1 = v + q_sz B v := by unfold q_last; omega
    have hbx : q_box qtt B (k + 1) v lim (decide (wk = 4)) = (decide (B (q_last B v) = 0) && q_ch qtt (q_box qtt B k) B (decide (wk = 4)) (q_last B v) 2001 [] (v + 4)) := by
      unfold q_box
      rw [decide_eq_true (show v + 5 ≤ lim by omega), decide_eq_true (show 5 ≤ q_sz B v by omega), decide_eq_true (show v + q_sz B v ≤ lim by omega), Bool.true_and, Bool.true_and, Bool.true_and]
    /- the end, when it is wrong -/
    have fin8 : ∀ (h2 : mmH) (A' cap' : Nat) (fi bef x9 : Value) (cnt : Nat), h2.2.2 r = some (rdC la row A' true) → A' ≤ q_last B v → v ≤ A' → hOk E h2 → hFr h h2 (rdW r la ed w) → rdRm h h2 cap cap' v A' → cap' ≤ A' + 10 → h2.2.2 w = some (.inr (4, fsw.set 9 fi)) → q_box qtt B (k + 1) v lim (decide (wk = 4)) = false → mm_Go E d 37 (mm_blk 37 8) [.ref r, .ref w, .int (nI lim), .int (nI (17 - (k + 1))), .int (nI v), .int (nI (q_sz B v)), .int (nI (q_last B v)), bef, .int (nI cnt), x9] [] h2 Q := by
      intro h2 A' cap' fi bef x9 cnt g1 g2 g2' g3 g4 g5 g6 g7 g8
      have g1' : h2.2.2 r = some (.inr (2, [.ref la, .ref row, .int (nI A'), .int (q_t true)])) := g1
      have hr2 := hrowFr g4
      have ten : mm_Go E d 37 (mm_blk 37 10) [.ref r, .ref w, .int (nI lim), .int (nI (17 - (k + 1))), .int (nI v), .int (nI (q_sz B v)), .int (nI (q_last B v)), bef, .int (nI cnt), x9] [] h2 Q := by
        repeat (first | refine gi_con ?_ | refine gi_bip (Nat.le_of_ble_eq_true rfl) ?_ | refine gi_sip (Nat.le_of_ble_eq_true rfl) ?_ | refine gi_ldc ?_ | refine gi_add ?_ | refine gi_inc rfl ?_ | refine gi_sub (by omega) ?_ | refine gi_mul ?_ | refine go_nx rfl ?_)
        refine gc_put (fs' := [.ref la, .ref row, .int (nI (q_last B v + 1)), .int (q_t true)]) g1' rfl (Nat.le_of_ble_eq_true rfl) rfl rfl ?_
        refine go_rt rfl ?_
        obtain ⟨m1, m2, m3, m4⟩ := g5
        exact hF _ (q_last B v + 1) cap' fi g8 hs_at (by omega) (hOk_set2 g3 g1') (hFr_set2 g4 (Or.inl (Or.inl rfl))) ⟨by show h2.1 + v ≤ h.1 + (q_last B v + 1); omega, by show h2.2.1 + 4 * cap + 6 * v ≤ h.2.1 + 6 * (q_last B v + 1) + 4 * cap'; omega, by omega, m4⟩ (by omega) (by rw [hs_ne hrw]; exact g7)
      have nine : mm_Go E d 37 (mm_blk 37 9) [.ref r, .ref w, .int (nI lim), .int (nI (17 - (k + 1))), .int (nI v), .int (nI (q_sz B v)), .int (nI (q_last B v)), bef, .int (nI cnt), x9] [] h2 Q := by
        repeat (first | refine gi_con ?_ | refine gi_bip (Nat.le_of_ble_eq_true rfl) ?_ | refine gi_sip (Nat.le_of_ble_eq_true rfl) ?_ | refine gi_ldc ?_ | refine gi_add ?_ | refine gi_inc rfl ?_ | refine gi_sub (by omega) ?_ | refine gi_mul ?_ | refine go_nx rfl ?_)
        refine gc_put (fs' := [.ref la, .ref row, .int (nI A'), .int (q_t true)]) g1' rfl (Nat.le_of_ble_eq_true rfl) rfl rfl ?_
        have e : mm_set h2 r (.inr (2, [.ref la, .ref row, .int (nI A'), .int (q_t true)])) = h2 := by
          unfold mm_set
          refine Prod.ext rfl (Prod.ext rfl ?_)
          funext z
          show va_up h2.2.2 r _ z = h2.2.2 z
          unfold va_up
          by_cases hz : z = r
          · rw [if_pos hz, hz, g1']
          · rw [if_neg hz]
        rw [e]
        refine go_jp rfl ?_
        exact ten
      repeat (first | refine gi_con ?_ | refine gi_bip (Nat.le_of_ble_eq_true rfl) ?_ | refine gi_sip (Nat.le_of_ble_eq_true rfl) ?_ | refine gi_ldc ?_ | refine gi_add ?_ | refine gi_inc rfl ?_ | refine gi_sub (by omega) ?_ | refine gi_mul ?_ | refine go_nx rfl ?_)
      refine gf_get _ g1' (by decide) rfl ?_
      repeat (first | refine gi_con ?_ | refine gi_bip (Nat.le_of_ble_eq_true rfl) ?_ | refine gi_sip (Nat.le_of_ble_eq_true rfl) ?_ | refine gi_ldc ?_ | refine gi_add ?_ | refine gi_inc rfl ?_ | refine gi_sub (by omega) ?_ | refine gi_mul ?_ | refine go_nx rfl ?_)
      first | refine gb_lt (by omega) (by omega) (fun c5 => ?_) (fun c5 => ?_) | refine gb_ge (by omega) (by omega) (fun c5 => ?_) (fun c5 => ?_) | refine gb_gt (by omega) (by omega) (fun c5 => ?_) (fun c5 => ?_) | refine gb_le (by omega) (by omega) (fun c5 => ?_) (fun c5 => ?_) | refine gb_eq (by omega) (by omega) (fun c5 => ?_) (fun c5 => ?_) | refine gb_ne (by omega) (by omega) (fun c5 => ?_) (fun c5 => ?_)
      · exact nine
      repeat (first | refine gi_con ?_ | refine gi_bip (Nat.le_of_ble_eq_true rfl) ?_ | refine gi_sip (Nat.le_of_ble_eq_true rfl) ?_ | refine gi_ldc ?_ | refine gi_add ?_ | refine gi_inc rfl ?_ | refine gi_sub (by omega) ?_ | refine gi_mul ?_ | refine go_nx rfl ?_)
      refine gf_get _ g1' (by decide) rfl ?_
      repeat (first | refine gi_con ?_ | refine gi_bip (Nat.le_of_ble_eq_true rfl) ?_ | refine gi_sip (Nat.le_of_ble_eq_true rfl) ?_ | refine gi_ldc ?_ | refine gi_add ?_ | refine gi_inc rfl ?_ | refine gi_sub (by omega) ?_ | refine gi_mul ?_ | refine go_nx rfl ?_)
      refine go_step ?_
      refine g_call (k := 11) rfl (by omega) (Nat.le_of_ble_eq_true rfl) rfl ?_
      refine sp_atN hr2 (by omega) ?_
      have hb0 := hr2.2.2.1 (q_last B v)
      first | refine gz_eq (by omega) (fun c6 => ?_) (fun c6 => ?_) | refine gz_ne (by omega) (fun c6 => ?_) (fun c6 => ?_) | refine gz_le (by omega) (fun c6 => ?_) (fun c6 => ?_) | refine gz_gt (by omega) (fun c6 => ?_) (fun c6 => ?_) | refine gz_lt (by omega) (fun c6 => ?_) (fun c6 => ?_) | refine gz_ge (by omega) (fun c6 => ?_) (fun c6 => ?_)
      · exact ten
      · refine go_jp rfl ?_
        exact nine
    have fin3 : ∀ (h2 : mmH) (A' cap' : Nat) (fi bef x9 : Value) (cnt : Nat), h2.2.2 r = some (rdC la row A' true) → A' ≤ q_last B v → v ≤ A' → hOk E h2 → hFr h h2 (rdW r la ed w) → rdRm h h2 cap cap' v A' → cap' ≤ A' + 10 → h2.2.2 w = some (.inr (4, fsw.set 9 fi)) → q_box qtt B (k + 1) v lim (decide (wk = 4)) = false → cnt ≤ 3000 → mm_Go E d 37 (mm_blk 37 3) [.ref r, .ref w, .int (nI lim), .int (nI (17 - (k + 1))), .int (nI v), .int (nI (q_sz B v)), .int (nI (q_last B v)), bef, .int (nI cnt), x9] [] h2 Q := by
      intro h2 A' cap' fi bef x9 cnt g1 g2 g2' g3 g4 g5 g6 g7 g8 hcnt
      have g1' : h2.2.2 r = some (.inr (2, [.ref la, .ref row, .int (nI A'), .int (q_t true)])) := g1
      have go8 := fin8 h2 A' cap' fi bef x9 cnt g1 g2 g2' g3 g4 g5 g6 g7 g8
      repeat (first | refine gi_con ?_ | refine gi_bip (Nat.le_of_ble_eq_true rfl) ?_ | refine gi_sip (Nat.le_of_ble_eq_true rfl) ?_ | refine gi_ldc ?_ | refine gi_add ?_ | refine gi_inc rfl ?_ | refine gi_sub (by omega) ?_ | refine gi_mul ?_ | refine go_nx rfl ?_)
      first | refine gb_lt (by omega) (by omega) (fun c5 => ?_) (fun c5 => ?_) | refine gb_ge (by omega) (by omega) (fun c5 => ?_) (fun c5 => ?_) | refine gb_gt (by omega) (by omega) (fun c5 => ?_) (fun c5 => ?_) | refine gb_le (by omega) (by omega) (fun c5 => ?_) (fun c5 => ?_) | refine gb_eq (by omega) (by omega) (fun c5 => ?_) (fun c5 => ?_) | refine gb_ne (by omega) (by omega) (fun c5 => ?_) (fun c5 => ?_)
      · exact go8
      repeat (first | refine gi_con ?_ | refine gi_bip (Nat.le_of_ble_eq_true rfl) ?_ | refine gi_sip (Nat.le_of_ble_eq_true rfl) ?_ | refine gi_ldc ?_ | refine gi_add ?_ | refine gi_inc rfl ?_ | refine gi_sub (by omega) ?_ | refine gi_mul ?_ | refine go_nx rfl ?_)
      refine gf_get _ g1' (by decide) rfl ?_
      repeat (first | refine gi_con ?_ | refine gi_bip (Nat.le_of_ble_eq_true rfl) ?_ | refine gi_sip (Nat.le_of_ble_eq_true rfl) ?_ | refine gi_ldc ?_ | refine gi_add ?_ | refine gi_inc rfl ?_ | refine gi_sub (by omega) ?_ | refine gi_mul ?_ | refine go_nx rfl ?_)
      first | refine gb_lt (by omega) (by omega) (fun c6 => ?_) (fun c6 => ?_) | refine gb_ge (by omega) (by omega) (fun c6 => ?_) (fun c6 => ?_) | refine gb_gt (by omega) (by omega) (fun c6 => ?_) (fun c6 => ?_) | refine gb_le (by omega) (by omega) (fun c6 => ?_) (fun c6 => ?_) | refine gb_eq (by omega) (by omega) (fun c6 => ?_) (fun c6 => ?_) | refine gb_ne (by omega) (by omega) (fun c6 => ?_) (fun c6 => ?_)
      · exact go8
      repeat (first | refine gi_con ?_ | refine gi_bip (Nat.le_of_ble_eq_true rfl) ?_ | refine gi_sip (Nat.le_of_ble_eq_true rfl) ?_ | refine gi_ldc ?_ | refine gi_add ?_ | refine gi_inc rfl ?_ | refine gi_sub (by omega) ?_ | refine gi_mul ?_ | refine go_nx rfl ?_)
      refine gf_get _ g1' (by decide) rfl ?_
      refine gt_ne (fun _ => go8) (fun c => by cases c)
    have loop : ∀ (f p : Nat) (prev : List Nat) (h1 : mmH) (N1 : Nat → Nat) (ed1 cap1 : Nat) (bef x9 : Value),
        q_last B v < f + p → p ≤ q_last B v → q_run B p (v + 4) prev → (∀ x ∈ prev, q_ok B n x ∧ x < p) → (∀ x ∈ prev, v + 4 ≤ x ∧ q_ne B x < q_last B v ∧ q_vok (q_box qtt B k) B x (q_last B v) = true ∧ q_next B x ≤ p) → 2 * prev.length ≤ p →
        (∀ q, q < v → N1 q = N q) → (∀ x ∈ prev, h1.2.2 (N1 x) = some (nFull row B N1 (fun _ => 0) p x) ∧ (B x = 3 ∨ B x = 4 → nBox h1 row B N1 (fun _ => 0) k (q_val B x))) →
        rdNew h h1 N1 (q_preL B k prev) → (∀ y ∈ q_preL B k prev, y < p) → rdOk E h1 r la ed1 cap1 (Ls ++ (q_preL B k prev).map N1) row n B p → h1.2.2 w = some (.inr (4, fsw.set 9 (if prev = [] then .null else .ref (N1 (v + 4))))) → hFr h h1 (rdW r la ed w) → rdRm h h1 cap cap1 v p → (ed1 = ed ∨ h.1 ≤ ed1) →
        ((prev = [] ∧ bef = .null) ∨ ∃ pre0 xl, prev = pre0 ++ [xl] ∧ bef = .ref (N1 xl) ∧ q_next B xl = p) → q_box_els B v = prev ++ q_els B (q_last B v) f p →
        q_ch qtt (q_box qtt B k) B (decide (wk = 4)) (q_last B v) 2001 [] (v + 4) = q_ch qtt (q_box qtt B k) B (decide (wk = 4)) (q_last B v) f prev p →
        mm_Go E d 37 (mm_blk 37 3) [.ref r, .ref w, .int (nI lim), .int (nI (17 - (k + 1))), .int (nI v), .int (nI (q_sz B v)), .int (nI (q_last B v)), bef, .int (nI prev.length), x9] [] h1 Q := by
      intro f
      induction f with
      | zero => intro p prev h1 N1 ed1 cap1 bef x9 hf hp; omega
      | succ f ihf =>
        intro p prev h1 N1 ed1 cap1 bef x9 hf hp hrun hprev hpv hlen hN hnd hnew hlt hok hw1c hfr hrm hed hbef hels hch
        have hok0 := hok
        obtain ⟨o1, o2, o3, o4, o5, o6⟩ := hok
        have o1' : h1.2.2 r = some (.inr (2, [.ref la, .ref row, .int (nI p), .int (q_t false)])) := o1
        have hN1x : ∀ x ∈ prev, h.1 ≤ N1 x ∧ N1 x < h1.1 := fun x hx => hnew.1 x (List.mem_flatMap.mpr ⟨x, hx, List.mem_cons_self⟩)
        have hv4 : v ≤ p := hrm.2.2.1
        have hne9 : ∀ z, (fsw.set 9 z)[1]? = some (.int (nI wk)) ∧ (fsw.set 9 z)[9]? = some z := fun z => ⟨by rw [List.getElem?_set_ne (by decide)]; exact hw1, by rw [List.getElem?_set_self (by omega)]⟩
        repeat (first | refine gi_con ?_ | refine gi_bip (Nat.le_of_ble_eq_true rfl) ?_ | refine gi_sip (Nat.le_of_ble_eq_true rfl) ?_ | refine gi_ldc ?_ | refine gi_add ?_ | refine gi_inc rfl ?_ | refine gi_sub (by omega) ?_ | refine gi_mul ?_ | refine go_nx rfl ?_)
        first | refine gb_lt (by omega) (by omega) (fun c5 => ?_) (fun c5 => ?_) | refine gb_ge (by omega) (by omega) (fun c5 => ?_) (fun c5 => ?_) | refine gb_gt (by omega) (by omega) (fun c5 => ?_) (fun c5 => ?_) | refine gb_le (by omega) (by omega) (fun c5 => ?_) (fun c5 => ?_) | refine gb_eq (by omega) (by omega) (fun c5 => ?_) (fun c5 => ?_) | refine gb_ne (by omega) (by omega) (fun c5 => ?_) (fun c5 => ?_)
        · omega
        repeat (first | refine gi_con ?_ | refine gi_bip (Nat.le_of_ble_eq_true rfl) ?_ | refine gi_sip (Nat.le_of_ble_eq_true rfl) ?_ | refine gi_ldc ?_ | refine gi_add ?_ | refine gi_inc rfl ?_ | refine gi_sub (by omega) ?_ | refine gi_mul ?_ | refine go_nx rfl ?_)
        refine gf_get _ o1' (by decide) rfl ?_
        repeat (first | refine gi_con ?_ | refine gi_bip (Nat.le_of_ble_eq_true rfl) ?_ | refine gi_sip (Nat.le_of_ble_eq_true rfl) ?_ | refine gi_ldc ?_ | refine gi_add ?_ | refine gi_inc rfl ?_ | refine gi_sub (by omega) ?_ | refine gi_mul ?_ | refine go_nx rfl ?_)
        first | refine gb_lt (by omega) (by omega) (fun c6 => ?_) (fun c6 => ?_) | refine gb_ge (by omega) (by omega) (fun c6 => ?_) (fun c6 => ?_) | refine gb_gt (by omega) (by omega) (fun c6 => ?_) (fun c6 => ?_) | refine gb_le (by omega) (by omega) (fun c6 => ?_) (fun c6 => ?_) | refine gb_eq (by omega) (by omega) (fun c6 => ?_) (fun c6 => ?_) | refine gb_ne (by omega) (by omega) (fun c6 => ?_) (fun c6 => ?_)
        · have hpl : p = q_last B v := by omega
          rw [q_els_s, if_neg (by omega), List.append_nil] at hels
          have hch1 : q_ch qtt (q_box qtt B k) B (decide (wk = 4)) (q_last B v) 2001 [] (v + 4) = true := by
            rw [hch]
            unfold q_ch
            rw [if_neg (by omega)]
            exact decide_eq_true hpl
          have hb0 := o4.2.2.1 (q_last B v)
          repeat (first | refine gi_con ?_ | refine gi_bip (Nat.le_of_ble_eq_true rfl) ?_ | refine gi_sip (Nat.le_of_ble_eq_true rfl) ?_ | refine gi_ldc ?_ | refine gi_add ?_ | refine gi_inc rfl ?_ | refine gi_sub (by omega) ?_ | refine gi_mul ?_ | refine go_nx rfl ?_)
          refine gf_get _ o1' (by decide) rfl ?_
          repeat (first | refine gi_con ?_ | refine gi_bip (Nat.le_of_ble_eq_true rfl) ?_ | refine gi_sip (Nat.le_of_ble_eq_true rfl) ?_ | refine gi_ldc ?_ | refine gi_add ?_ | refine gi_inc rfl ?_ | refine gi_sub (by omega) ?_ | refine gi_mul ?_ | refine go_nx rfl ?_)
          first | refine gb_lt (by omega) (by omega) (fun c7 => ?_) (fun c7 => ?_) | refine gb_ge (by omega) (by omega) (fun c7 => ?_) (fun c7 => ?_) | refine gb_gt (by omega) (by omega) (fun c7 => ?_) (fun c7 => ?_) | refine gb_le (by omega) (by omega) (fun c7 => ?_) (fun c7 => ?_) | refine gb_eq (by omega) (by omega) (fun c7 => ?_) (fun c7 => ?_) | refine gb_ne (by omega) (by omega) (fun c7 => ?_) (fun c7 => ?_)
          · omega
          repeat (first | refine gi_con ?_ | refine gi_bip (Nat.le_of_ble_eq_true rfl) ?_ | refine gi_sip (Nat.le_of_ble_eq_true rfl) ?_ | refine gi_ldc ?_ | refine gi_add ?_ | refine gi_inc rfl ?_ | refine gi_sub (by omega) ?_ | refine gi_mul ?_ | refine go_nx rfl ?_)
          refine gf_get _ o1' (by decide) rfl ?_
          repeat (first | refine gi_con ?_ | refine gi_bip (Nat.le_of_ble_eq_true rfl) ?_ | refine gi_sip (Nat.le_of_ble_eq_true rfl) ?_ | refine gi_ldc ?_ | refine gi_add ?_ | refine gi_inc rfl ?_ | refine gi_sub (by omega) ?_ | refine gi_mul ?_ | refine go_nx rfl ?_)
          refine go_step ?_
          refine g_call (k := 11) rfl (by omega) (Nat.le_of_ble_eq_true rfl) rfl ?_
          refine sp_atN o4 (by omega) ?_
          first | refine gz_eq (by omega) (fun c8 => ?_) (fun c8 => ?_) | refine gz_ne (by omega) (fun c8 => ?_) (fun c8 => ?_) | refine gz_le (by omega) (fun c8 => ?_) (fun c8 => ?_) | refine gz_gt (by omega) (fun c8 => ?_) (fun c8 => ?_) | refine gz_lt (by omega) (fun c8 => ?_) (fun c8 => ?_) | refine gz_ge (by omega) (fun c8 => ?_) (fun c8 => ?_)
          · have hbt : q_box qtt B (k + 1) v lim (decide (wk = 4)) = true := by rw [hbx, hch1, decide_eq_true c8]; rfl
            repeat (first | refine gi_con ?_ | refine gi_bip (Nat.le_of_ble_eq_true rfl) ?_ | refine gi_sip (Nat.le_of_ble_eq_true rfl) ?_ | refine gi_ldc ?_ | refine gi_add ?_ | refine gi_inc rfl ?_ | refine gi_sub (by omega) ?_ | refine gi_mul ?_ | refine go_nx rfl ?_)
            refine gc_put (fs' := [.ref la, .ref row, .int (nI (q_last B v + 1)), .int (q_t false)]) o1' rfl (Nat.le_of_ble_eq_true rfl) rfl rfl ?_
            refine go_rt rfl ?_
            have hNr : ∀ b c, h1.2.2 b = some (.inr (4, c)) → (mm_set h1 r (rdC la row (q_last B v + 1) false)).2.2 b = h1.2.2 b := fun b c hb => hs_ne (fun q => by rw [q, o1'] at hb; cases hb)
            obtain ⟨m1, m2, m3, m4⟩ := hrm
            have hpre : q_pre B (k + 1) v = q_preL B k prev := by rw [q_pre_s, hels]
            refine hS (mm_set h1 r (rdC la row (q_last B v + 1) false)) N1 ed1 cap1 hbt hN ?_ ?_ ?_ ?_ (hFr_set2 hfr (Or.inl (Or.inl rfl))) ?_ hed
            · rw [nBox_s, hels]
              intro x hx
              obtain ⟨d1, d2⟩ := hnd x hx
              obtain ⟨e1, e2, e3, e4⟩ := hpv x hx
              refine ⟨by rw [hNr _ _ d1, d1, hpl], fun h34 => ?_⟩
              have hnext : q_next B x = q_val B x + q_sz B (q_val B x) := by
                unfold q_next q_ln
                rw [if_neg (by omega), if_neg (by omega), if_neg (by omega), if_neg (by omega), if_pos h34]
              have hlb : q_last B (q_val B x) ≤ p := by
                have := (q_vok_ok e2 e3).2 h34
                unfold q_last
                omega
              have hnd2 := nBox_nd (d2 h34)
              rcases h34 with h3' | h4'
              · exact nBox_fr (b := p) (fun _ _ => rfl) ((q_at_box e3).1 h3') hlb (fun y hy => by obtain ⟨c, hc⟩ := hnd2 y hy; exact hNr _ _ hc) (d2 (Or.inl h3'))
              · exact nBox_fr (b := p) (fun _ _ => rfl) ((q_at_box e3).2 h4') hlb (fun y hy => by obtain ⟨c, hc⟩ := hnd2 y hy; exact hNr _ _ hc) (d2 (Or.inr h4'))
            · rw [hpre]
              exact hnew
            · rw [hpre, ← hlast]
              refine ⟨hs_at, aL_fr o2 (hs_ne (fun q => by obtain ⟨mc1, hm⟩ := o2.1; rw [q, o1'] at hm; cases hm)) (fun ⟨x, hx⟩ => hs_ne (fun q => by rw [q, o1'] at hx; cases hx)), hOk_set2 o3 o1', bRow_set o4 o1', by omega, by omega⟩
            · rw [hs_ne hrw, hw1c]
              congr 4
              by_cases hpe : prev = []
              · rw [if_pos hpe]
                rw [hpe] at hrun
                have hrun : v + 4 = p := hrun
                rw [if_neg (by omega)]
              · rw [if_neg hpe]
                have : v + 4 < q_last B v := by
                  rcases q_run_lt hrow hrun hprev with ⟨e1, -⟩ | ⟨l2, -, e2⟩
                  · exact absurd e1 hpe
                  · omega
                rw [if_pos this]
            · rw [← hlast]
              exact ⟨by show h1.1 + v ≤ h.1 + (q_last B v + 1); omega, by show h1.2.1 + 4 * cap + 6 * v ≤ h.2.1 + 6 * (q_last B v + 1) + 4 * cap1; omega, by omega, m4⟩
          · have hbf : q_box qtt B (k + 1) v lim (decide (wk = 4)) = false := by rw [hbx, decide_eq_false (by omega)]; rfl
            refine go_jp rfl ?_
            repeat (first | refine gi_con ?_ | refine gi_bip (Nat.le_of_ble_eq_true rfl) ?_ | refine gi_sip (Nat.le_of_ble_eq_true rfl) ?_ | refine gi_ldc ?_ | refine gi_add ?_ | refine gi_inc rfl ?_ | refine gi_sub (by omega) ?_ | refine gi_mul ?_ | refine go_nx rfl ?_)
            refine gc_put (fs' := [.ref la, .ref row, .int (nI p), .int (q_t true)]) o1' rfl (Nat.le_of_ble_eq_true rfl) rfl rfl ?_
            refine go_jp rfl ?_
            repeat (first | refine gi_con ?_ | refine gi_bip (Nat.le_of_ble_eq_true rfl) ?_ | refine gi_sip (Nat.le_of_ble_eq_true rfl) ?_ | refine gi_ldc ?_ | refine gi_add ?_ | refine gi_inc rfl ?_ | refine gi_sub (by omega) ?_ | refine gi_mul ?_ | refine go_nx rfl ?_)
            refine gc_put (fs' := [.ref la, .ref row, .int (nI (q_last B v + 1)), .int (q_t true)]) hs_at rfl (Nat.le_of_ble_eq_true rfl) rfl rfl ?_
            rw [hs_set]
            refine go_rt rfl ?_
            obtain ⟨m1, m2, m3, m4⟩ := hrm
            exact hF (mm_set h1 r (rdC la row (q_last B v + 1) true)) (q_last B v + 1) cap1 _ hbf hs_at (by omega) (hOk_set2 o3 o1') (hFr_set2 hfr (Or.inl (Or.inl rfl))) ⟨by show h1.1 + v ≤ h.1 + (q_last B v + 1); omega, by show h1.2.1 + 4 * cap + 6 * v ≤ h.2.1 + 6 * (q_last B v + 1) + 4 * cap1; omega, by omega, m4⟩ (by omega) (by rw [hs_ne hrw]; exact hw1c)
        have hpl : p < q_last B v := by omega
        have hchs : q_ch qtt (q_box qtt B k) B (decide (wk = 4)) (q_last B v) (f + 1) prev p = (q_el qtt (q_box qtt B k) B (decide (wk = 4)) (q_last B v) prev p && q_ch qtt (q_box qtt B k) B (decide (wk = 4)) (q_last B v) f (prev ++ [p]) (q_next B p)) := by
          rw [q_ch, if_pos hpl]
        rw [hchs] at hch
        have hbad : q_el qtt (q_box qtt B k) B (decide (wk = 4)) (q_last B v) prev p = false → q_box qtt B (k + 1) v lim (decide (wk = 4)) = false := by
          intro e
          rw [hbx, hch, e, Bool.false_and, Bool.and_false]
        have hfrT : ∀ {h2 : mmH}, hFr h1 h2 (rdV r la ed1) → hFr h h2 (rdW r la ed w) := by
          intro h2 hf
          refine ⟨Nat.le_trans hfr.1 hf.1, fun b hb hwb => ?_⟩
          rw [hf.2 b (Nat.lt_of_lt_of_le hb hfr.1) (fun q => ?_)]
          · exact hfr.2 b hb hwb
          · rcases q with q | q | q
            · exact hwb (Or.inl q)
            · exact hwb (Or.inr (Or.inl q))
            · rcases hed with e | e
              · exact hwb (Or.inr (Or.inr (Or.inl (by rw [q, e]))))
              · omega
        obtain ⟨mc1, hla1⟩ := o2.1
        have hkeep : ∀ {h2 : mmH} {b : Nat} {c : List Value}, hFr h1 h2 (rdV r la ed1) → h1.2.2 b = some (.inr (4, c)) → h2.2.2 b = h1.2.2 b := by
          intro h2 b c hf hb
          refine hf.2 b (hOk_lt o3 hb) (fun q => ?_)
          rcases q with q | q | q
          · rw [q, o1'] at hb
            cases hb
          · rw [q, hla1] at hb
            cases hb
          · exact aL_edn hE o3 o2 hb (fun _ _ z => by cases z) q
        have hN1w : ∀ x ∈ q_preL B k prev, N1 x ≠ w := fun x hx => by
          have := (hnew.1 x hx).1
          omega
        have hvp := (q_run_le hrun).1
        have hh1 : h.1 ≤ h1.1 := hfr.1
        have four : ∀ (h2 : mmH) (A' cap2 : Nat) (w0 : Bool) (x9 fi : Value), (x9 = .null ∨ ∃ z, x9 = .ref z) → h2.2.2 r = some (rdC la row A' w0) → A' ≤ q_last B v → p ≤ A' → hOk E h2 → hFr h h2 (rdW r la ed w) → rdRm h h2 cap cap2 v A' → cap2 ≤ A' + 10 → h2.2.2 w = some (.inr (4, fsw.set 9 fi)) → q_el qtt (q_box qtt B k) B (decide (wk = 4)) (q_last B v) prev p = false → mm_Go E d 37 (mm_blk 37 4) [.ref r, .ref w, .int (nI lim), .int (nI (17 - (k + 1))), .int (nI v), .int (nI (q_sz B v)), .int (nI (q_last B v)), bef, .int (nI prev.length), x9] [] h2 Q := by
          intro h2 A' cap2 w0 x9 fi hx9 g1 g2 g2' g3 g4 g5 g6 g7 g8
          have g1' : h2.2.2 r = some (.inr (2, [.ref la, .ref row, .int (nI A'), .int (q_t w0)])) := g1
          have g := fin3 (mm_set h2 r (rdC la row A' true)) A' cap2 fi x9 x9 (prev.length + 1) hs_at g2 (by omega) (hOk_set2 g3 g1') (hFr_set2 g4 (Or.inl (Or.inl rfl))) g5 g6 (by rw [hs_ne hrw]; exact g7) (hbad g8) (by omega)
          rcases hx9 with e | ⟨z, e⟩
          · subst e
            repeat (first | refine gi_con ?_ | refine gi_bip (Nat.le_of_ble_eq_true rfl) ?_ | refine gi_sip (Nat.le_of_ble_eq_true rfl) ?_ | refine gi_ldc ?_ | refine gi_add ?_ | refine gi_inc rfl ?_ | refine gi_sub (by omega) ?_ | refine gi_mul ?_ | refine go_nx rfl ?_)
            refine gc_put (fs' := [.ref la, .ref row, .int (nI A'), .int (q_t true)]) g1' rfl (Nat.le_of_ble_eq_true rfl) rfl rfl ?_
            refine go_jp rfl ?_
            repeat (first | refine gi_con ?_ | refine gi_bip (Nat.le_of_ble_eq_true rfl) ?_ | refine gi_sip (Nat.le_of_ble_eq_true rfl) ?_ | refine gi_ldc ?_ | refine gi_add ?_ | refine gi_inc rfl ?_ | refine gi_sub (by omega) ?_ | refine gi_mul ?_ | refine go_nx rfl ?_)
            refine go_jp rfl ?_
            exact g
          · subst e
            repeat (first | refine gi_con ?_ | refine gi_bip (Nat.le_of_ble_eq_true rfl) ?_ | refine gi_sip (Nat.le_of_ble_eq_true rfl) ?_ | refine gi_ldc ?_ | refine gi_add ?_ | refine gi_inc rfl ?_ | refine gi_sub (by omega) ?_ | refine gi_mul ?_ | refine go_nx rfl ?_)
            refine gc_put (fs' := [.ref la, .ref row, .int (nI A'), .int (q_t true)]) g1' rfl (Nat.le_of_ble_eq_true rfl) rfl rfl ?_
            refine go_jp rfl ?_
            repeat (first | refine gi_con ?_ | refine gi_bip (Nat.le_of_ble_eq_true rfl) ?_ | refine gi_sip (Nat.le_of_ble_eq_true rfl) ?_ | refine gi_ldc ?_ | refine gi_add ?_ | refine gi_inc rfl ?_ | refine gi_sub (by omega) ?_ | refine gi_mul ?_ | refine go_nx rfl ?_)
            refine go_jp rfl ?_
            exact g
        have five : ∀ (h2 : mmH) (a : Nat), hOk E h2 → h2.2.2 w = some (.inr (4, fsw.set 9 (if prev = [] then .null else .ref (N1 (v + 4))))) → (∀ x ∈ prev, h2.2.2 (N1 x) = some (nFull row B N1 (fun _ => 0) p x)) →
            (∀ h3 : mmH, h3.1 = h2.1 → h3.2.1 = h2.2.1 → hOk E h3 → h3.2.2 w = some (.inr (4, fsw.set 9 (if prev = [] then .ref a else .ref (N1 (v + 4))))) → (∀ pre0 xl, prev = pre0 ++ [xl] → h3.2.2 (N1 xl) = some (nCell row B xl (q_tf B xl) (q_tt B xl) (q_nu B xl) (q_fi B N1 xl) (.ref a) 0)) → (∀ b, b ≠ w → (∀ pre0 xl, prev = pre0 ++ [xl] → b ≠ N1 xl) → h3.2.2 b = h2.2.2 b) → (∀ b, (∀ c, h2.2.2 b ≠ some (.inr (4, c))) → h3.2.2 b = h2.2.2 b) → mm_Go E d 37 (mm_blk 37 3) [.ref r, .ref w, .int (nI lim), .int (nI (17 - (k + 1))), .int (nI v), .int (nI (q_sz B v)), .int (nI (q_last B v)), .ref a, .int (nI (prev.length + 1)), .ref a] [] h3 Q) →
            mm_Go E d 37 (mm_blk 37 5) [.ref r, .ref w, .int (nI lim), .int (nI (17 - (k + 1))), .int (nI v), .int (nI (q_sz B v)), .int (nI (q_last B v)), bef, .int (nI prev.length), .ref a] [] h2 Q := by
          intro h2 a g1 g2 g3 g4
          rcases hbef with ⟨e1, e2⟩ | ⟨pre0, xl, e1, e2, e3⟩
          · subst e2
            repeat (first | refine gi_con ?_ | refine gi_bip (Nat.le_of_ble_eq_true rfl) ?_ | refine gi_sip (Nat.le_of_ble_eq_true rfl) ?_ | refine gi_ldc ?_ | refine gi_add ?_ | refine gi_inc rfl ?_ | refine gi_sub (by omega) ?_ | refine gi_mul ?_ | refine go_nx rfl ?_)
            refine gn_nnN ?_
            repeat (first | refine gi_con ?_ | refine gi_bip (Nat.le_of_ble_eq_true rfl) ?_ | refine gi_sip (Nat.le_of_ble_eq_true rfl) ?_ | refine gi_ldc ?_ | refine gi_add ?_ | refine gi_inc rfl ?_ | refine gi_sub (by omega) ?_ | refine gi_mul ?_ | refine go_nx rfl ?_)
            refine gc_put (fs' := fsw.set 9 (.ref a)) g2 rfl (by rw [List.length_set, hw12]; exact Nat.le_of_ble_eq_true rfl) rfl (List.set_set ..) ?_
            refine go_jp rfl ?_
            repeat (first | refine gi_con ?_ | refine gi_bip (Nat.le_of_ble_eq_true rfl) ?_ | refine gi_sip (Nat.le_of_ble_eq_true rfl) ?_ | refine gi_ldc ?_ | refine gi_add ?_ | refine gi_inc rfl ?_ | refine gi_sub (by omega) ?_ | refine gi_mul ?_ | refine go_nx rfl ?_)
            refine go_jp rfl ?_
            refine g4 (mm_set h2 w (.inr (4, fsw.set 9 (.ref a)))) rfl rfl (hOk_set2 g1 g2) (by rw [if_pos e1]; exact hs_at) (fun pre0 xl q => by rw [e1] at q; simp at q) (fun b hb _ => hs_ne hb) (fun b hb => hs_ne (fun q => hb (fsw.set 9 (if prev = [] then .null else .ref (N1 (v + 4)))) (by rw [q]; exact g2)))
          · subst e2
            have hxl : xl ∈ prev := by rw [e1]; simp
            have g5 := g3 xl hxl
            have g5' : h2.2.2 (N1 xl) = some (.inr (4, [.ref row, .int (nI (B xl)), .int (nI xl), .int (nI (q_ne B xl)), .int (nI (q_word B xl)), .int (nI (q_cls (B xl))), .int (q_tf B xl), .int (q_tt B xl), .long (q_nu B xl), q_fi B N1 xl, q_nx B N1 p xl, .int 0])) := g5
            have hxw : w ≠ N1 xl := fun q => hN1w xl (List.mem_flatMap.mpr ⟨xl, hxl, List.mem_cons_self⟩) q.symm
            repeat (first | refine gi_con ?_ | refine gi_bip (Nat.le_of_ble_eq_true rfl) ?_ | refine gi_sip (Nat.le_of_ble_eq_true rfl) ?_ | refine gi_ldc ?_ | refine gi_add ?_ | refine gi_inc rfl ?_ | refine gi_sub (by omega) ?_ | refine gi_mul ?_ | refine go_nx rfl ?_)
            refine gn_nnR ?_
            repeat (first | refine gi_con ?_ | refine gi_bip (Nat.le_of_ble_eq_true rfl) ?_ | refine gi_sip (Nat.le_of_ble_eq_true rfl) ?_ | refine gi_ldc ?_ | refine gi_add ?_ | refine gi_inc rfl ?_ | refine gi_sub (by omega) ?_ | refine gi_mul ?_ | refine go_nx rfl ?_)
            refine gc_put (fs' := [.ref row, .int (nI (B xl)), .int (nI xl), .int (nI (q_ne B xl)), .int (nI (q_word B xl)), .int (nI (q_cls (B xl))), .int (q_tf B xl), .int (q_tt B xl), .long (q_nu B xl), q_fi B N1 xl, .ref a, .int 0]) g5' rfl (Nat.le_of_ble_eq_true rfl) rfl rfl ?_
            refine go_jp rfl ?_
            repeat (first | refine gi_con ?_ | refine gi_bip (Nat.le_of_ble_eq_true rfl) ?_ | refine gi_sip (Nat.le_of_ble_eq_true rfl) ?_ | refine gi_ldc ?_ | refine gi_add ?_ | refine gi_inc rfl ?_ | refine gi_sub (by omega) ?_ | refine gi_mul ?_ | refine go_nx rfl ?_)
            refine go_jp rfl ?_
            refine g4 (mm_set h2 (N1 xl) (nCell row B xl (q_tf B xl) (q_tt B xl) (q_nu B xl) (q_fi B N1 xl) (.ref a) 0)) rfl rfl (hOk_set2 g1 g5') (by rw [hs_ne hxw, g2, if_neg (by rw [e1]; simp), if_neg (by rw [e1]; simp)]) (fun pre1 yl q => ?_) (fun b _ hb => hs_ne (hb pre0 xl e1)) (fun b hb => hs_ne (fun q => hb [.ref row, .int (nI (B xl)), .int (nI xl), .int (nI (q_ne B xl)), .int (nI (q_word B xl)), .int (nI (q_cls (B xl))), .int (q_tf B xl), .int (q_tt B xl), .long (q_nu B xl), q_fi B N1 xl, q_nx B N1 p xl, .int 0] (by rw [q]; exact g5')))
            rw [e1] at q
            obtain ⟨-, q⟩ := List.append_inj' q rfl
            have q := (List.cons.inj q).1
            subst q
            exact hs_at
        have hfr5 : ∀ {h2 h3 : mmH}, hFr h h2 (rdW r la ed w) → h3.1 = h2.1 → (∀ b, b ≠ w → (∀ pre0 xl, prev = pre0 ++ [xl] → b ≠ N1 xl) → h3.2.2 b = h2.2.2 b) → hFr h h3 (rdW r la ed w) := by
          intro h2 h3 hf e1 e2
          refine ⟨by rw [e1]; exact hf.1, fun b hb hwb => ?_⟩
          rw [e2 b (fun q => hwb (Or.inr (Or.inr (Or.inr q)))) (fun pre0 xl e3 q => ?_)]
          · exact hf.2 b hb hwb
          · have := (hN1x xl (by rw [e3]; simp)).1
            omega
        repeat (first | refine gi_con ?_ | refine gi_bip (Nat.le_of_ble_eq_true rfl) ?_ | refine gi_sip (Nat.le_of_ble_eq_true rfl) ?_ | refine gi_ldc ?_ | refine gi_add ?_ | refine gi_inc rfl ?_ | refine gi_sub (by omega) ?_ | refine gi_mul ?_ | refine go_nx rfl ?_)
        refine gf_get _ o1' (by decide) rfl ?_
        refine gt_ne (fun c => by cases c) (fun _ => ?_)
        repeat (first | refine gi_con ?_ | refine gi_bip (Nat.le_of_ble_eq_true rfl) ?_ | refine gi_sip (Nat.le_of_ble_eq_true rfl) ?_ | refine gi_ldc ?_ | refine gi_add ?_ | refine gi_inc rfl ?_ | refine gi_sub (by omega) ?_ | refine gi_mul ?_ | refine go_nx rfl ?_)
        refine go_step ?_
        refine g_callV (by decide) (by decide) (Nat.le_of_ble_eq_true rfl) (Nat.le_of_ble_eq_true rfl) (o_rcv o1' rfl (by decide)) (by omega) (Nat.le_of_ble_eq_true rfl) rfl ?_
        refine sp_rpart (N := N1) (by omega) hE hSt hok0 hrow hpl (by omega) (by omega) (by rw [show d - 1 - 2 = d - 3 by omega]; exact ih (d - 3) (by omega) (by omega)) (fun hge => ?_) (fun h2 N2 ed2 cap2 hne hv' c1 c2 c3 c4 c5 c6' c7 c8 c9 => ?_) (fun h2 A' cap2 tf tt num fi hne hv' c1 c2 c3 c4 c5 c6' c7 => ?_)
        · repeat (first | refine gi_con ?_ | refine gi_bip (Nat.le_of_ble_eq_true rfl) ?_ | refine gi_sip (Nat.le_of_ble_eq_true rfl) ?_ | refine gi_ldc ?_ | refine gi_add ?_ | refine gi_inc rfl ?_ | refine gi_sub (by omega) ?_ | refine gi_mul ?_ | refine go_nx rfl ?_)
          refine gn_nN ?_
          exact four h1 p cap1 false .null _ (Or.inl rfl) o1 (by omega) (Nat.le_refl _) o3 hfr hrm o6 hw1c (by unfold q_el; rw [decide_eq_false (by omega)]; rfl)
        · have hw2 := hkeep c7 hw1c
          have hnd2 : ∀ x ∈ prev, h2.2.2 (N1 x) = some (nFull row B N1 (fun _ => 0) p x) := fun x hx => by
            rw [hkeep c7 (hnd x hx).1]
            exact (hnd x hx).1
          have hvk := q_vok_ok hne hv'
          have hpv2 := q_val_ge B p
          have hpn2 : p + 2 ≤ q_next B p := by unfold q_next; omega
          have c5r := c5.1
          repeat (first | refine gi_con ?_ | refine gi_bip (Nat.le_of_ble_eq_true rfl) ?_ | refine gi_sip (Nat.le_of_ble_eq_true rfl) ?_ | refine gi_ldc ?_ | refine gi_add ?_ | refine gi_inc rfl ?_ | refine gi_sub (by omega) ?_ | refine gi_mul ?_ | refine go_nx rfl ?_)
          refine gn_nR ?_
          repeat (first | refine gi_con ?_ | refine gi_bip (Nat.le_of_ble_eq_true rfl) ?_ | refine gi_sip (Nat.le_of_ble_eq_true rfl) ?_ | refine gi_ldc ?_ | refine gi_add ?_ | refine gi_inc rfl ?_ | refine gi_sub (by omega) ?_ | refine gi_mul ?_ | refine go_nx rfl ?_)
          refine go_step ?_
          refine g_callV (by decide) (by decide) (Nat.le_of_ble_eq_true rfl) (Nat.le_of_ble_eq_true rfl) (o_rcv c5r rfl (by decide)) (by omega) (Nat.le_of_ble_eq_true rfl) rfl ?_
          refine sp_nameDue (N := N1) (ord := fun _ => 0) (s := v + 4) (by omega) c5r c5.2.2.2.1 hrow (by rw [hw2]; exact hw1c) (hne9 _).1 (by omega) (hne9 _).2 c6' (by omega) (by omega) hrun hprev hnd2 (by omega) ?_
          refine gt_ne (fun cn => ?_) (fun cn => ?_)
          rotate_left
          · refine go_jp rfl ?_
            exact four h2 (q_next B p) cap2 false (.ref h1.1) _ (Or.inr ⟨_, rfl⟩) c5r hvk.1 (by omega) c5.2.2.1 (hfrT c7) (rdRm_t hrm c8) c5.2.2.2.2.2 (by rw [hw2]; exact hw1c) (by unfold q_el; rw [cn, Bool.and_false]; rfl)
          refine five h2 h1.1 c5.2.2.1 (by rw [hw2]; exact hw1c) hnd2 (fun h3 e1 e2 e3 e4 e5 e6 e7 => ?_)
          have hh2 : h1.1 ≤ h2.1 := c7.1
          have hel : q_el qtt (q_box qtt B k) B (decide (wk = 4)) (q_last B v) prev p = true := by
            unfold q_el
            rw [cn, hv', decide_eq_true hne]
            rfl
          have hmemP : ∀ x ∈ prev, x ∈ q_preL B k prev := fun x hx => List.mem_flatMap.mpr ⟨x, hx, List.mem_cons_self⟩
          have hlast1 : ∀ pre0 xl, prev = pre0 ++ [xl] → q_next B xl = p ∧ ∀ x ∈ prev, x = xl ∨ q_next B x ≤ xl := by
            intro pre0 xl e
            rw [e] at hrun
            obtain ⟨r1, r2⟩ := q_run_last hrun
            refine ⟨r2, fun x hx => ?_⟩
            rw [e] at hx
            rcases List.mem_append.mp hx with hx | hx
            · exact Or.inr ((q_run_le r1).2 x hx)
            · exact Or.inl (List.mem_singleton.mp hx)
          have hboxle : ∀ x ∈ prev, (B x = 3 ∨ B x = 4) → q_next B x = q_val B x + q_sz B (q_val B x) ∧ q_last B (q_val B x) < q_next B x := by
            intro x hx h34
            obtain ⟨f1, f2, f3, f4⟩ := hpv x hx
            have hnext : q_next B x = q_val B x + q_sz B (q_val B x) := by
              unfold q_next q_ln
              rw [if_neg (by omega), if_neg (by omega), if_neg (by omega), if_neg (by omega), if_pos h34]
            have := (q_vok_ok f2 f3).2 h34
            exact ⟨hnext, by unfold q_last; omega⟩
          have hboxex : ∀ x, q_vok (q_box qtt B k) B x (q_last B v) = true → (B x = 3 ∨ B x = 4) → ∃ rw_, q_box qtt B k (q_val B x) (q_last B v) rw_ = true := by
            intro x hx h34
            rcases h34 with h3 | h4
            · exact ⟨_, (q_at_box hx).1 h3⟩
            · exact ⟨_, (q_at_box hx).2 h4⟩
          have hnextp : (B p = 3 ∨ B p = 4) → q_last B (q_val B p) < q_next B p := by
            intro h34
            have hnext : q_next B p = q_val B p + q_sz B (q_val B p) := by
              unfold q_next q_ln
              rw [if_neg (by omega), if_neg (by omega), if_neg (by omega), if_neg (by omega), if_pos h34]
            have := hvk.2 h34
            unfold q_last
            omega
          have hsubin : ∀ y ∈ q_sub2 B k p, p < y ∧ y < q_next B p := by
            intro y hy
            by_cases h34 : B p = 3 ∨ B p = 4
            · unfold q_sub2 at hy
              rw [if_pos h34] at hy
              obtain ⟨rw_, hb⟩ := hboxex p hv' h34
              have := q_pre_in hb y hy
              have := hnextp h34
              omega
            · unfold q_sub2 at hy
              rw [if_neg h34] at hy
              cases hy
          have hmap : (q_preL B k prev).map N2 = (q_preL B k prev).map N1 := List.map_congr_left (fun y hy => c1 y (hlt y hy))
          have hels2 := hels
          rw [q_els_s, if_pos hpl] at hels2
          have := ihf (q_next B p) (prev ++ [p]) h3 N2 ed2 cap2 (.ref h1.1) (.ref h1.1) (by omega) hvk.1 (q_run_snoc hrun) ?_ ?_ (by rw [List.length_append]; show 2 * (prev.length + 1) ≤ _; omega) (fun q hq => by rw [c1 q (by omega), hN q hq]) ?_ ?_ ?_ ?_ ?_ (hfr5 (hfrT c7) e1 e6) ?_ ?_ (Or.inr ⟨prev, p, rfl, by rw [c2], rfl⟩) (by rw [hels2]; simp) (by rw [hch, hel, Bool.true_and])
          · rw [List.length_append] at this
            exact this
          · intro x hx
            rcases List.mem_append.mp hx with hx | hx
            · obtain ⟨f1, f2⟩ := hprev x hx
              exact ⟨f1, by omega⟩
            · rw [List.mem_singleton.mp hx]
              exact ⟨⟨by omega, by omega, by omega, hvk.2⟩, by omega⟩
          · intro x hx
            rcases List.mem_append.mp hx with hx | hx
            · obtain ⟨f1, f2, f3, f4⟩ := hpv x hx
              exact ⟨f1, f2, f3, by omega⟩
            · rw [List.mem_singleton.mp hx]
              exact ⟨hvp, hne, hv', Nat.le_refl _⟩
          · intro x hx
            rcases List.mem_append.mp hx with hx | hx
            · obtain ⟨d1, d2⟩ := hnd x hx
              obtain ⟨f1, f2, f3, f4⟩ := hpv x hx
              have hxp := (hprev x hx).2
              have hfi : (B x = 3 ∨ B x = 4) → q_val B x + 4 < q_last B (q_val B x) → q_val B x + 4 < p := fun h34 hl2 => by
                have := (hboxle x hx h34).2
                omega
              have hxn := hnew.1 x (hmemP x hx)
              have hnxl : ∀ y ∈ q_preL B k prev, (∀ pre0 xl, prev = pre0 ++ [xl] → y ≠ xl) → ∀ c, h1.2.2 (N1 y) = some (.inr (4, c)) → h3.2.2 (N1 y) = h1.2.2 (N1 y) := by
                intro y hy hyl c hc
                rw [e6 (N1 y) (hN1w y hy) (fun pre0 xl e q => hyl pre0 xl e (hnew.2 y hy xl (hmemP xl (by rw [e]; simp)) q)), hkeep c7 hc]
              refine ⟨?_, fun h34 => ?_⟩
              · rw [c1 x hxp]
                by_cases hxl : ∃ pre0, prev = pre0 ++ [x]
                · obtain ⟨pre0, e⟩ := hxl
                  rw [e5 pre0 x e]
                  have hnx := (hlast1 pre0 x e).1
                  have e8 : q_fi B N2 x = q_fi B N1 x := by
                    unfold q_fi
                    split
                    · rename_i hc
                      rw [c1 _ (hfi hc.1 hc.2)]
                    · rfl
                  have e9 : q_nx B N2 (q_next B p) x = .ref h1.1 := by
                    unfold q_nx
                    rw [hnx, if_pos (by omega), c2]
                  unfold nFull
                  rw [e8, e9]
                  rfl
                · rw [hnxl x (hmemP x hx) (fun pre0 xl e q => hxl ⟨pre0, by rw [q]; exact e⟩) _ d1, d1]
                  have hnlt : q_next B x < p := by
                    rcases hbef with ⟨b1, -⟩ | ⟨pre0, xl, b1, -, b3⟩
                    · rw [b1] at hx
                      cases hx
                    · rcases (hlast1 pre0 xl b1).2 x hx with q | q
                      · exact absurd ⟨pre0, by rw [q]; exact b1⟩ hxl
                      · have := (hprev xl (by rw [b1]; simp)).2
                        omega
                  have e8 : q_fi B N2 x = q_fi B N1 x := by
                    unfold q_fi
                    split
                    · rename_i hc
                      rw [c1 _ (hfi hc.1 hc.2)]
                    · rfl
                  have e9 : q_nx B N2 (q_next B p) x = q_nx B N1 p x := by
                    unfold q_nx
                    rw [if_pos (by omega), if_pos hnlt, c1 _ hnlt]
                  unfold nFull
                  rw [e8, e9]
              · obtain ⟨rw_, hb⟩ := hboxex x f3 h34
                have hbl := hboxle x hx h34
                have hnd3 := nBox_nd (d2 h34)
                refine nBox_fr (h := h1) (N := N1) (b := p) c1 hb (by omega) (fun y hy => ?_) (d2 h34)
                obtain ⟨c, hc⟩ := hnd3 y hy
                have hy2 := q_pre_in hb y hy
                have hxv := q_val_ge B x
                refine hnxl y (List.mem_flatMap.mpr ⟨x, hx, List.mem_cons_of_mem _ (by rw [if_pos h34]; exact hy)⟩) (fun pre0 xl e q => ?_) c hc
                rcases (hlast1 pre0 xl e).2 x hx with q2 | q2 <;> omega
            · have hx := List.mem_singleton.mp hx
              subst hx
              have hnew2 : ∀ y ∈ x :: q_sub2 B k x, h3.2.2 (N2 y) = h2.2.2 (N2 y) := by
                intro y hy
                have hy1 := (c4.1 y hy).1
                refine e6 _ (by omega) (fun pre0 xl e q => ?_)
                have := (hN1x xl (by rw [e]; simp)).2
                omega
              refine ⟨?_, fun h34 => ?_⟩
              · rw [hnew2 x List.mem_cons_self, c2, c6']
                have e9 : q_nx B N2 (q_next B x) x = .null := if_neg (by omega)
                unfold nFull
                rw [e9]
                rfl
              · obtain ⟨rw_, hb⟩ := hboxex x hv' h34
                refine nBox_fr (h := h2) (N := N2) (b := q_next B x) (fun _ _ => rfl) hb (by have := hnextp h34; omega) (fun y hy => hnew2 y (List.mem_cons_of_mem _ (by unfold q_sub2; rw [if_pos h34]; exact hy))) (c3 h34)
          · rw [q_preL_snoc]
            refine ⟨fun x hx => ?_, fun x hx y hy hxy => ?_⟩
            · rw [e1]
              rcases List.mem_append.mp hx with hx | hx
              · rw [c1 x (hlt x hx)]
                have := hnew.1 x hx
                omega
              · have := c4.1 x hx
                omega
            · rcases List.mem_append.mp hx with hx | hx
              · rw [c1 x (hlt x hx)] at hxy
                have h1x := hnew.1 x hx
                rcases List.mem_append.mp hy with hy | hy
                · rw [c1 y (hlt y hy)] at hxy
                  exact hnew.2 x hx y hy hxy
                · have := c4.1 y hy
                  omega
              · have h1x := c4.1 x hx
                rcases List.mem_append.mp hy with hy | hy
                · rw [c1 y (hlt y hy)] at hxy
                  have := hnew.1 y hy
                  omega
                · exact c4.2 x hx y hy hxy
          · intro y hy
            rw [q_preL_snoc] at hy
            rcases List.mem_append.mp hy with hy | hy
            · have := hlt y hy
              omega
            · rcases List.mem_cons.mp hy with hy | hy
              · omega
              · exact (hsubin y hy).2
          · rw [q_preL_snoc, List.map_append, hmap, ← List.append_assoc]
            obtain ⟨p1, p2, p3, p4, p5, p6⟩ := c5
            refine ⟨by rw [e7 r (fun c q => by rw [p1] at q; cases q)]; exact p1, aL_fr p2 (e7 la (fun c q => by obtain ⟨mc, hm⟩ := p2.1; rw [hm] at q; cases q)) (fun ⟨x, hx⟩ => e7 ed2 (fun c q => by rw [hx] at q; cases q)), e3, bRow_eq p4 (e7 row (fun c q => by obtain ⟨-, ⟨f, r2, -⟩, -⟩ := p4; rw [r2] at q; cases q)), p5, p6⟩
          · rw [e4, if_neg (show ¬ prev ++ [p] = [] by simp)]
            by_cases hpe : prev = []
            · rw [if_pos hpe]
              rw [hpe] at hrun
              have hrun : v + 4 = p := hrun
              rw [hrun, c2]
            · rw [if_neg hpe, c1 (v + 4) ?_]
              rcases q_run_lt hrow hrun hprev with ⟨z1, -⟩ | ⟨l2, -, z2⟩
              · exact absurd z1 hpe
              · exact z2
          · have := rdRm_t hrm c8
            unfold rdRm at this ⊢
            rw [e1, e2]
            exact this
          · rcases c9 with c9 | c9
            · rw [c9]
              exact hed
            · exact Or.inr (by omega)
        · have hw2 := hkeep c4 hw1c
          have hnd2 : ∀ x ∈ prev, h2.2.2 (N1 x) = some (nFull row B N1 (fun _ => 0) p x) := fun x hx => by
            rw [hkeep c4 (hnd x hx).1]
            exact (hnd x hx).1
          have hpA := c5.2.2.1
          repeat (first | refine gi_con ?_ | refine gi_bip (Nat.le_of_ble_eq_true rfl) ?_ | refine gi_sip (Nat.le_of_ble_eq_true rfl) ?_ | refine gi_ldc ?_ | refine gi_add ?_ | refine gi_inc rfl ?_ | refine gi_sub (by omega) ?_ | refine gi_mul ?_ | refine go_nx rfl ?_)
          refine gn_nR ?_
          repeat (first | refine gi_con ?_ | refine gi_bip (Nat.le_of_ble_eq_true rfl) ?_ | refine gi_sip (Nat.le_of_ble_eq_true rfl) ?_ | refine gi_ldc ?_ | refine gi_add ?_ | refine gi_inc rfl ?_ | refine gi_sub (by omega) ?_ | refine gi_mul ?_ | refine go_nx rfl ?_)
          refine go_step ?_
          refine g_callV (by decide) (by decide) (Nat.le_of_ble_eq_true rfl) (Nat.le_of_ble_eq_true rfl) (o_rcv c1 rfl (by decide)) (by omega) (Nat.le_of_ble_eq_true rfl) rfl ?_
          refine sp_nameDue (N := N1) (ord := fun _ => 0) (s := v + 4) (by omega) c1 (hrowFr (hfrT c4)) hrow (by rw [hw2]; exact hw1c) (hne9 _).1 (by omega) (hne9 _).2 c7 (by omega) (by omega) hrun hprev hnd2 (by omega) ?_
          refine gt_ne (fun cn => ?_) (fun cn => ?_)
          · refine five h2 h1.1 c3 (by rw [hw2]; exact hw1c) hnd2 (fun h3 e1 e2 e3 e4 e5 e6 e7 => ?_)
            refine fin3 h3 A' cap2 _ _ _ (prev.length + 1) (by rw [e7 r (fun c q => by rw [c1] at q; cases q)]; exact c1) c2 (by omega) e3 (hfr5 (hfrT c4) e1 e6) ?_ c6' e4 (hbad (by unfold q_el; rw [hv', Bool.and_false]; rfl)) (by omega)
            have := rdRm_t hrm c5
            unfold rdRm at this ⊢
            rw [e1, e2]
            exact this
          · refine go_jp rfl ?_
            exact four h2 A' cap2 true (.ref h1.1) _ (Or.inr ⟨_, rfl⟩) c1 c2 hpA c3 (hfrT c4) (rdRm_t hrm c5) c6' (by rw [hw2]; exact hw1c) (by unfold q_el; rw [hv', Bool.and_false]; rfl)
    repeat (first | refine gi_con ?_ | refine gi_bip (Nat.le_of_ble_eq_true rfl) ?_ | refine gi_sip (Nat.le_of_ble_eq_true rfl) ?_ | refine gi_ldc ?_ | refine gi_add ?_ | refine gi_inc rfl ?_ | refine gi_sub (by omega) ?_ | refine gi_mul ?_ | refine go_nx rfl ?_)
    refine go_jp rfl ?_
    rw [show v + q_sz B v - 1 = q_last B v by unfold q_last; rfl]
    have hOk4 : rdOk E (mm_set h r (rdC la row (v + 4) false)) r la ed cap (Ls ++ (q_preL B k []).map N) row n B (v + 4) := by
      show rdOk E (mm_set h r (rdC la row (v + 4) false)) r la ed cap (Ls ++ []) row n B (v + 4)
      rw [List.append_nil]
      exact ⟨hs_at, aL_fr h2 (hs_ne (fun q => by rw [q, h1'] at hla; cases hla)) (fun ⟨x, hx⟩ => hs_ne (fun q => by rw [q, h1'] at hx; cases hx)), hOk_set2 h3 h1', bRow_set h4 h1', by omega, by omega⟩
    refine loop 2001 (v + 4) [] _ N ed cap _ _ (by omega) (by unfold q_last; omega) rfl (fun x hx => by cases hx) (fun x hx => by cases hx) (by simp) (fun _ _ => rfl) (fun x hx => by cases hx) ⟨fun x hx => absurd hx List.not_mem_nil, fun x hx => absurd hx List.not_mem_nil⟩ (fun x hx => absurd hx List.not_mem_nil) hOk4 (by rw [hs_ne hrw, if_pos rfl, set9 hw9]; exact hw) (hFr_set (Or.inl rfl)) ⟨by show h.1 + v ≤ h.1 + (v + 4); omega, by show h.2.1 + 4 * cap + 6 * v ≤ h.2.1 + 6 * (v + 4) + 4 * cap; omega, by omega, Nat.le_refl _⟩ (Or.inl rfl) (Or.inl ⟨rfl, rfl⟩) rfl rfl
end C
