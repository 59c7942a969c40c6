/-! THE CLASS: readParts -/
section C
variable {E : mmE} {row n : Nat} {B : Nat → Nat}
theorem bRow_eq {h h' : mmH} (hr : bRow h row n B) (he : h'.2.2 row = h.2.2 row) : bRow h' row n B := by
  obtain ⟨r1, ⟨f, r2, r3⟩, r4⟩ := hr
  exact ⟨r1, ⟨f, by rw [he]; exact r2, r3⟩, r4⟩
theorem bRow_ne {h : mmH} {b : Nat} {c : Nat × List Value} (hr : bRow h row n B) (hb : h.2.2 b = some (.inr c)) : row ≠ b := fun q => by
  obtain ⟨-, ⟨f, r2, -⟩, -⟩ := hr
  rw [q, hb] at r2
  cases r2
theorem bRow_ned {h : mmH} {a ed N : Nat} {l : List Nat} (hE : sE E) (hk : hOk E h) (hr : bRow h row n B) (ha : aL E h a ed N l) : row ≠ ed := by
  obtain ⟨-, ⟨f, r2, -⟩, -⟩ := hr
  exact aL_edn hE hk ha r2 (fun _ _ z => by cases z)
theorem set9 {fsw : List Value} (h9 : fsw[9]? = some .null) : fsw.set 9 .null = fsw := by
  apply List.ext_getElem?
  intro i
  by_cases hi : i = 9
  · subst hi
    rw [h9]
    have : 9 < fsw.length := by
      by_cases hl : 9 < fsw.length
      · exact hl
      · rw [List.getElem?_eq_none (by omega)] at h9
        cases h9
    rw [List.getElem?_set_self this]
  · rw [List.getElem?_set_ne (Ne.symm hi)]
theorem q_preL_snoc (k : Nat) (l : List Nat) (p : Nat) : q_preL B k (l ++ [p]) = q_preL B k l ++ (p :: q_sub2 B k p) := by
  unfold q_preL q_sub2
  rw [List.flatMap_append]
  simp
theorem sp_rparts (hE : sE E) (hSt : sStr E) (hrow : q_row B n) : ∀ (k d : Nat), 3 * k + 12 ≤ d → k ≤ 16 → RPs E d row n B k := by
  intro k
  induction k with
  | zero =>
    intro d hd hk h r la ed cap Ls w fsw v lim N wk Q hr hw hw12 hw1 hwk hw9 hv hl hS hF
    obtain ⟨h1, h2, h3, h4, h5, h6⟩ := hr
    have hn := h4.1
    have h1' : h.2.2 r = some (.inr (2, [.ref la, .ref row, .int (nI v), .int (q_t false)])) := h1
    have hrw : w ≠ r := fun q => by rw [q, h1'] at hw; cases hw
    have bad : ∀ (A' : Nat) (w0 : Bool) (x5 : Int32), v ≤ A' → A' ≤ lim → mm_Go E d 37 (mm_blk 37 1) [.ref r, .ref w, .int (nI lim), .int (nI (17 - 0)), .int (nI v), .int x5, mm_un, mm_un, mm_un, mm_un] [] (mm_set h r (rdC la row A' w0)) Q := by
      intro A' w0 x5 hA1 hA2
      have hcr : (mm_set h r (rdC la row A' w0)).2.2 r = some (.inr (2, [.ref la, .ref row, .int (nI A'), .int (q_t w0)])) := hs_at
      repeat (first | refine gi_con ?_ | refine gi_bip (Nat.le_of_ble_eq_true rfl) ?_ | refine gi_sip (Nat.le_of_ble_eq_true rfl) ?_ | refine gi_ldc ?_ | refine gi_add ?_ | refine gi_inc rfl ?_ | refine gi_sub (by omega) ?_ | refine gi_mul ?_ | refine go_nx rfl ?_)
      refine gc_put (fs' := [.ref la, .ref row, .int (nI A'), .int (q_t true)]) hcr rfl (Nat.le_of_ble_eq_true rfl) rfl rfl ?_
      rw [hs_set]
      refine go_rt rfl ?_
      exact hF _ A' cap .null rfl hs_at hA2 (hOk_set2 h3 h1') (hFr_set (Or.inl rfl)) ⟨by show h.1 + v ≤ h.1 + A'; omega, by show h.2.1 + 4 * cap + 6 * v ≤ h.2.1 + 6 * A' + 4 * cap; omega, hA1, Nat.le_refl _⟩ (by omega) (by rw [hs_ne hrw, set9 hw9]; exact hw)
    repeat (first | refine gi_con ?_ | refine gi_bip (Nat.le_of_ble_eq_true rfl) ?_ | refine gi_sip (Nat.le_of_ble_eq_true rfl) ?_ | refine gi_ldc ?_ | refine gi_add ?_ | refine gi_inc rfl ?_ | refine gi_sub (by omega) ?_ | refine gi_mul ?_ | refine go_nx rfl ?_)
    refine gf_get _ h1' (by decide) rfl ?_
    repeat (first | refine gi_con ?_ | refine gi_bip (Nat.le_of_ble_eq_true rfl) ?_ | refine gi_sip (Nat.le_of_ble_eq_true rfl) ?_ | refine gi_ldc ?_ | refine gi_add ?_ | refine gi_inc rfl ?_ | refine gi_sub (by omega) ?_ | refine gi_mul ?_ | refine go_nx rfl ?_)
    refine go_step ?_
    refine g_callV (by decide) (by decide) (Nat.le_of_ble_eq_true rfl) (Nat.le_of_ble_eq_true rfl) (o_rcv h1' rfl (by decide)) (by omega) (Nat.le_of_ble_eq_true rfl) rfl ?_
    refine sp_rnum (by omega) h1 h4 hv (by omega) (by omega) (fun hle => ?_) (fun hlt => ?_)
    · have hcr : (mm_set h r (rdC la row (v + 4) false)).2.2 r = some (.inr (2, [.ref la, .ref row, .int (nI (v + 4)), .int (q_t false)])) := hs_at
      repeat (first | refine gi_con ?_ | refine gi_bip (Nat.le_of_ble_eq_true rfl) ?_ | refine gi_sip (Nat.le_of_ble_eq_true rfl) ?_ | refine gi_ldc ?_ | refine gi_add ?_ | refine gi_inc rfl ?_ | refine gi_sub (by omega) ?_ | refine gi_mul ?_ | refine go_nx rfl ?_)
      refine gf_get _ hcr (by decide) rfl ?_
      refine gt_ne (fun c => by cases c) (fun _ => ?_)
      repeat (first | refine gi_con ?_ | refine gi_bip (Nat.le_of_ble_eq_true rfl) ?_ | refine gi_sip (Nat.le_of_ble_eq_true rfl) ?_ | refine gi_ldc ?_ | refine gi_add ?_ | refine gi_inc rfl ?_ | refine gi_sub (by omega) ?_ | refine gi_mul ?_ | refine go_nx rfl ?_)
      first | refine gb_lt (by omega) (by omega) (fun c => ?_) (fun c => ?_) | refine gb_ge (by omega) (by omega) (fun c => ?_) (fun c => ?_) | refine gb_gt (by omega) (by omega) (fun c => ?_) (fun c => ?_) | refine gb_le (by omega) (by omega) (fun c => ?_) (fun c => ?_) | refine gb_eq (by omega) (by omega) (fun c => ?_) (fun c => ?_) | refine gb_ne (by omega) (by omega) (fun c => ?_) (fun c => ?_)
      · exact bad _ _ _ (by omega) hle
      · omega
    · have hcr : (mm_set h r (rdC la row v true)).2.2 r = some (.inr (2, [.ref la, .ref row, .int (nI v), .int (q_t true)])) := hs_at
      repeat (first | refine gi_con ?_ | refine gi_bip (Nat.le_of_ble_eq_true rfl) ?_ | refine gi_sip (Nat.le_of_ble_eq_true rfl) ?_ | refine gi_ldc ?_ | refine gi_add ?_ | refine gi_inc rfl ?_ | refine gi_sub (by omega) ?_ | refine gi_mul ?_ | refine go_nx rfl ?_)
      refine gf_get _ hcr (by decide) rfl ?_
      refine gt_ne (fun _ => ?_) (fun c => by cases c)
      exact bad _ _ _ (Nat.le_refl _) hv
  | succ k ih =>
    intro d hd hk h r la ed cap Ls w fsw v lim N wk Q hr hw hw12 hw1 hwk hw9 hv hl hS hF
    have hr0 := hr
    obtain ⟨h1, h2, h3, h4, h5, h6⟩ := hr
    have hn := h4.1
    have hs := q_sz_lt h4.2.2.1 v
    have h1' : h.2.2 r = some (.inr (2, [.ref la, .ref row, .int (nI v), .int (q_t false)])) := h1
    have hrw : w ≠ r := fun q => by rw [q, h1'] at hw; cases hw
    obtain ⟨mc, hla⟩ := h2.1
    have hrl := hOk_lt h3 h1'
    have hwl := hOk_lt h3 hw
    have hll := hOk_lt h3 hla
    have hel := aL_ed hE h3 h2
    have hrowne : row ≠ r ∧ row ≠ la ∧ row ≠ ed ∧ row ≠ w := ⟨bRow_ne h4 h1', bRow_ne h4 hla, bRow_ned hE h3 h4 h2, bRow_ne h4 hw⟩
    have hrowl : row < h.1 := by
      obtain ⟨-, ⟨f, r2, -⟩, -⟩ := h4
      exact hOk_lt h3 r2
    have hrowFr : ∀ {h2 : mmH}, hFr h h2 (rdW r la ed w) → bRow h2 row n B := fun hf => bRow_eq h4 (hf.2 row hrowl (fun q => by
      rcases q with q | q | q | q
      · exact hrowne.1 q
      · exact hrowne.2.1 q
      · exact hrowne.2.2.1 q
      · exact hrowne.2.2.2 q))
    have bad : ∀ (A' : Nat) (w0 : Bool) (x5 : Int32), v ≤ A' → A' ≤ lim → q_box qtt B (k + 1) v lim (decide (wk = 4)) = false → mm_Go E d 37 (mm_blk 37 1) [.ref r, .ref w, .int (nI lim), .int (nI (17 - (k + 1))), .int (nI v), .int x5, mm_un, mm_un, mm_un, mm_un] [] (mm_set h r (rdC la row A' w0)) Q := by
      intro A' w0 x5 hA1 hA2 hbx
      have hcr : (mm_set h r (rdC la row A' w0)).2.2 r = some (.inr (2, [.ref la, .ref row, .int (nI A'), .int (q_t w0)])) := hs_at
      repeat (first | refine gi_con ?_ | refine gi_bip (Nat.le_of_ble_eq_true rfl) ?_ | refine gi_sip (Nat.le_of_ble_eq_true rfl) ?_ | refine gi_ldc ?_ | refine gi_add ?_ | refine gi_inc rfl ?_ | refine gi_sub (by omega) ?_ | refine gi_mul ?_ | refine go_nx rfl ?_)
      refine gc_put (fs' := [.ref la, .ref row, .int (nI A'), .int (q_t true)]) hcr rfl (Nat.le_of_ble_eq_true rfl) rfl rfl ?_
      rw [hs_set]
      refine go_rt rfl ?_
      exact hF _ A' cap .null hbx hs_at hA2 (hOk_set2 h3 h1') (hFr_set (Or.inl rfl)) ⟨by show h.1 + v ≤ h.1 + A'; omega, by show h.2.1 + 4 * cap + 6 * v ≤ h.2.1 + 6 * A' + 4 * cap; omega, hA1, Nat.le_refl _⟩ (by omega) (by rw [hs_ne hrw, set9 hw9]; exact hw)
    repeat (first | refine gi_con ?_ | refine gi_bip (Nat.le_of_ble_eq_true rfl) ?_ | refine gi_sip (Nat.le_of_ble_eq_true rfl) ?_ | refine gi_ldc ?_ | refine gi_add ?_ | refine gi_inc rfl ?_ | refine gi_sub (by omega) ?_ | refine gi_mul ?_ | refine go_nx rfl ?_)
    refine gf_get _ h1' (by decide) rfl ?_
    repeat (first | refine gi_con ?_ | refine gi_bip (Nat.le_of_ble_eq_true rfl) ?_ | refine gi_sip (Nat.le_of_ble_eq_true rfl) ?_ | refine gi_ldc ?_ | refine gi_add ?_ | refine gi_inc rfl ?_ | refine gi_sub (by omega) ?_ | refine gi_mul ?_ | refine go_nx rfl ?_)
    refine go_step ?_
    refine g_callV (by decide) (by decide) (Nat.le_of_ble_eq_true rfl) (Nat.le_of_ble_eq_true rfl) (o_rcv h1' rfl (by decide)) (by omega) (Nat.le_of_ble_eq_true rfl) rfl ?_
    refine sp_rnum (by omega) h1 h4 hv (by omega) (by omega) (fun hle => ?_) (fun hlt => ?_)
    rotate_left
    · have hcr : (mm_set h r (rdC la row v true)).2.2 r = some (.inr (2, [.ref la, .ref row, .int (nI v), .int (q_t true)])) := hs_at
      repeat (first | refine gi_con ?_ | refine gi_bip (Nat.le_of_ble_eq_true rfl) ?_ | refine gi_sip (Nat.le_of_ble_eq_true rfl) ?_ | refine gi_ldc ?_ | refine gi_add ?_ | refine gi_inc rfl ?_ | refine gi_sub (by omega) ?_ | refine gi_mul ?_ | refine go_nx rfl ?_)
      refine gf_get _ hcr (by decide) rfl ?_
      refine gt_ne (fun _ => ?_) (fun c => by cases c)
      exact bad _ _ _ (Nat.le_refl _) hv (by unfold q_box; rw [decide_eq_false (by omega)]; rfl)
    rw [q_le_4]
    have hcr : (mm_set h r (rdC la row (v + 4) false)).2.2 r = some (.inr (2, [.ref la, .ref row, .int (nI (v + 4)), .int (q_t false)])) := hs_at
    repeat (first | refine gi_con ?_ | refine gi_bip (Nat.le_of_ble_eq_true rfl) ?_ | refine gi_sip (Nat.le_of_ble_eq_true rfl) ?_ | refine gi_ldc ?_ | refine gi_add ?_ | refine gi_inc rfl ?_ | refine gi_sub (by omega) ?_ | refine gi_mul ?_ | refine go_nx rfl ?_)
    rw [lN_i]
    refine gf_get _ hcr (by decide) rfl ?_
    refine gt_ne (fun c => by cases c) (fun _ => ?_)
    repeat (first | refine gi_con ?_ | refine gi_bip (Nat.le_of_ble_eq_true rfl) ?_ | refine gi_sip (Nat.le_of_ble_eq_true rfl) ?_ | refine gi_ldc ?_ | refine gi_add ?_ | refine gi_inc rfl ?_ | refine gi_sub (by omega) ?_ | refine gi_mul ?_ | refine go_nx rfl ?_)
    first | refine gb_lt (by omega) (by omega) (fun c0 => ?_) (fun c0 => ?_) | refine gb_ge (by omega) (by omega) (fun c0 => ?_) (fun c0 => ?_) | refine gb_gt (by omega) (by omega) (fun c0 => ?_) (fun c0 => ?_) | refine gb_le (by omega) (by omega) (fun c0 => ?_) (fun c0 => ?_) | refine gb_eq (by omega) (by omega) (fun c0 => ?_) (fun c0 => ?_) | refine gb_ne (by omega) (by omega) (fun c0 => ?_) (fun c0 => ?_)
    · omega
    repeat (first | refine gi_con ?_ | refine gi_bip (Nat.le_of_ble_eq_true rfl) ?_ | refine gi_sip (Nat.le_of_ble_eq_true rfl) ?_ | refine gi_ldc ?_ | refine gi_add ?_ | refine gi_inc rfl ?_ | refine gi_sub (by omega) ?_ | refine gi_mul ?_ | refine go_nx rfl ?_)
    by_cases hbig : 2 ^ 31 ≤ q_sz B v
    · refine gn_lt hbig hs (by omega) ?_
      exact bad _ _ _ (by omega) hle (by unfold q_box; rw [decide_eq_false (show ¬ v + q_sz B v ≤ lim by omega), Bool.and_false]; rfl)
    first | refine gb_lt (by omega) (by omega) (fun c1 => ?_) (fun c1 => ?_) | refine gb_ge (by omega) (by omega) (fun c1 => ?_) (fun c1 => ?_) | refine gb_gt (by omega) (by omega) (fun c1 => ?_) (fun c1 => ?_) | refine gb_le (by omega) (by omega) (fun c1 => ?_) (fun c1 => ?_) | refine gb_eq (by omega) (by omega) (fun c1 => ?_) (fun c1 => ?_) | refine gb_ne (by omega) (by omega) (fun c1 => ?_) (fun c1 => ?_)
    · exact bad _ _ _ (by omega) hle (by unfold q_box; rw [decide_eq_false (show ¬ 5 ≤ q_sz B v by omega), Bool.and_false]; rfl)
    repeat (first | refine gi_con ?_ | refine gi_bip (Nat.le_of_ble_eq_true rfl) ?_ | refine gi_sip (Nat.le_of_ble_eq_true rfl) ?_ | refine gi_ldc ?_ | refine gi_add ?_ | refine gi_inc rfl ?_ | refine gi_sub (by omega) ?_ | refine gi_mul ?_ | refine go_nx rfl ?_)
    first | refine gb_lt (by omega) (by omega) (fun c2 => ?_) (fun c2 => ?_) | refine gb_ge (by omega) (by omega) (fun c2 => ?_) (fun c2 => ?_) | refine gb_gt (by omega) (by omega) (fun c2 => ?_) (fun c2 => ?_) | refine gb_le (by omega) (by omega) (fun c2 => ?_) (fun c2 => ?_) | refine gb_eq (by omega) (by omega) (fun c2 => ?_) (fun c2 => ?_) | refine gb_ne (by omega) (by omega) (fun c2 => ?_) (fun c2 => ?_)
    rotate_left
    · refine go_jp rfl ?_
      exact bad _ _ _ (by omega) hle (by unfold q_box; rw [decide_eq_false (show ¬ v + q_sz B v ≤ lim by omega), Bool.and_false]; rfl)
    clear bad
    have hlast : q_last B v + 1 = v + q_sz B v := by unfold q_last; omega
    have hbx : q_box qtt B (k + 1) v lim (decide (wk = 4)) = (decide (B (q_last B v) = 0) && q_ch qtt (q_box qtt B k) B (decide (wk = 4)) (q_last B v) 2001 [] (v + 4)) := by
      unfold q_box
      rw [decide_eq_true (show v + 5 ≤ lim by omega), decide_eq_true (show 5 ≤ q_sz B v by omega), decide_eq_true (show v + q_sz B v ≤ lim by omega), Bool.true_and, Bool.true_and, Bool.true_and]
    /- the end, when it is wrong -/
    have fin8 : ∀ (h2 : mmH) (A' cap' : Nat) (fi bef x9 : Value) (cnt : Nat), h2.2.2 r = some (rdC la row A' true) → A' ≤ q_last B v → v ≤ A' → hOk E h2 → hFr h h2 (rdW r la ed w) → rdRm h h2 cap cap' v A' → cap' ≤ A' + 10 → h2.2.2 w = some (.inr (4, fsw.set 9 fi)) → q_box qtt B (k + 1) v lim (decide (wk = 4)) = false → mm_Go E d 37 (mm_blk 37 8) [.ref r, .ref w, .int (nI lim), .int (nI (17 - (k + 1))), .int (nI v), .int (nI (q_sz B v)), .int (nI (q_last B v)), bef, .int (nI cnt), x9] [] h2 Q := by
      intro h2 A' cap' fi bef x9 cnt g1 g2 g2' g3 g4 g5 g6 g7 g8
      have g1' : h2.2.2 r = some (.inr (2, [.ref la, .ref row, .int (nI A'), .int (q_t true)])) := g1
      have hr2 := hrowFr g4
      have ten : mm_Go E d 37 (mm_blk 37 10) [.ref r, .ref w, .int (nI lim), .int (nI (17 - (k + 1))), .int (nI v), .int (nI (q_sz B v)), .int (nI (q_last B v)), bef, .int (nI cnt), x9] [] h2 Q := by
        repeat (first | refine gi_con ?_ | refine gi_bip (Nat.le_of_ble_eq_true rfl) ?_ | refine gi_sip (Nat.le_of_ble_eq_true rfl) ?_ | refine gi_ldc ?_ | refine gi_add ?_ | refine gi_inc rfl ?_ | refine gi_sub (by omega) ?_ | refine gi_mul ?_ | refine go_nx rfl ?_)
        refine gc_put (fs' := [.ref la, .ref row, .int (nI (q_last B v + 1)), .int (q_t true)]) g1' rfl (Nat.le_of_ble_eq_true rfl) rfl rfl ?_
        refine go_rt rfl ?_
        obtain ⟨m1, m2, m3, m4⟩ := g5
        exact hF _ (q_last B v + 1) cap' fi g8 hs_at (by omega) (hOk_set2 g3 g1') (hFr_set2 g4 (Or.inl (Or.inl rfl))) ⟨by show h2.1 + v ≤ h.1 + (q_last B v + 1); omega, by show h2.2.1 + 4 * cap + 6 * v ≤ h.2.1 + 6 * (q_last B v + 1) + 4 * cap'; omega, by omega, m4⟩ (by omega) (by rw [hs_ne hrw]; exact g7)
      have nine : mm_Go E d 37 (mm_blk 37 9) [.ref r, .ref w, .int (nI lim), .int (nI (17 - (k + 1))), .int (nI v), .int (nI (q_sz B v)), .int (nI (q_last B v)), bef, .int (nI cnt), x9] [] h2 Q := by
        repeat (first | refine gi_con ?_ | refine gi_bip (Nat.le_of_ble_eq_true rfl) ?_ | refine gi_sip (Nat.le_of_ble_eq_true rfl) ?_ | refine gi_ldc ?_ | refine gi_add ?_ | refine gi_inc rfl ?_ | refine gi_sub (by omega) ?_ | refine gi_mul ?_ | refine go_nx rfl ?_)
        refine gc_put (fs' := [.ref la, .ref row, .int (nI A'), .int (q_t true)]) g1' rfl (Nat.le_of_ble_eq_true rfl) rfl rfl ?_
        have e : mm_set h2 r (.inr (2, [.ref la, .ref row, .int (nI A'), .int (q_t true)])) = h2 := by
          unfold mm_set
          refine Prod.ext rfl (Prod.ext rfl ?_)
          funext z
          show va_up h2.2.2 r _ z = h2.2.2 z
          unfold va_up
          by_cases hz : z = r
          · rw [if_pos hz, hz, g1']
          · rw [if_neg hz]
        rw [e]
        refine go_jp rfl ?_
        exact ten
      repeat (first | refine gi_con ?_ | refine gi_bip (Nat.le_of_ble_eq_true rfl) ?_ | refine gi_sip (Nat.le_of_ble_eq_true rfl) ?_ | refine gi_ldc ?_ | refine gi_add ?_ | refine gi_inc rfl ?_ | refine gi_sub (by omega) ?_ | refine gi_mul ?_ | refine go_nx rfl ?_)
      refine gf_get _ g1' (by decide) rfl ?_
      repeat (first | refine gi_con ?_ | refine gi_bip (Nat.le_of_ble_eq_true rfl) ?_ | refine gi_sip (Nat.le_of_ble_eq_true rfl) ?_ | refine gi_ldc ?_ | refine gi_add ?_ | refine gi_inc rfl ?_ | refine gi_sub (by omega) ?_ | refine gi_mul ?_ | refine go_nx rfl ?_)
      first | refine gb_lt (by omega) (by omega) (fun c5 => ?_) (fun c5 => ?_) | refine gb_ge (by omega) (by omega) (fun c5 => ?_) (fun c5 => ?_) | refine gb_gt (by omega) (by omega) (fun c5 => ?_) (fun c5 => ?_) | refine gb_le (by omega) (by omega) (fun c5 => ?_) (fun c5 => ?_) | refine gb_eq (by omega) (by omega) (fun c5 => ?_) (fun c5 => ?_) | refine gb_ne (by omega) (by omega) (fun c5 => ?_) (fun c5 => ?_)
      · exact nine
      repeat (first | refine gi_con ?_ | refine gi_bip (Nat.le_of_ble_eq_true rfl) ?_ | refine gi_sip (Nat.le_of_ble_eq_true rfl) ?_ | refine gi_ldc ?_ | refine gi_add ?_ | refine gi_inc rfl ?_ | refine gi_sub (by omega) ?_ | refine gi_mul ?_ | refine go_nx rfl ?_)
      refine gf_get _ g1' (by decide) rfl ?_
      repeat (first | refine gi_con ?_ | refine gi_bip (Nat.le_of_ble_eq_true rfl) ?_ | refine gi_sip (Nat.le_of_ble_eq_true rfl) ?_ | refine gi_ldc ?_ | refine gi_add ?_ | refine gi_inc rfl ?_ | refine gi_sub (by omega) ?_ | refine gi_mul ?_ | refine go_nx rfl ?_)
      refine go_step ?_
      refine g_call (k := 11) rfl (by omega) (Nat.le_of_ble_eq_true rfl) rfl ?_
      refine sp_atN hr2 (by omega) ?_
      have hb0 := hr2.2.2.1 (q_last B v)
      first | refine gz_eq (by omega) (fun c6 => ?_) (fun c6 => ?_) | refine gz_ne (by omega) (fun c6 => ?_) (fun c6 => ?_) | refine gz_le (by omega) (fun c6 => ?_) (fun c6 => ?_) | refine gz_gt (by omega) (fun c6 => ?_) (fun c6 => ?_) | refine gz_lt (by omega) (fun c6 => ?_) (fun c6 => ?_) | refine gz_ge (by omega) (fun c6 => ?_) (fun c6 => ?_)
      · exact ten
      · refine go_jp rfl ?_
        exact nine
    have fin3 : ∀ (h2 : mmH) (A' cap' : Nat) (fi bef x9 : Value) (cnt : Nat), h2.2.2 r = some (rdC la row A' true) → A' ≤ q_last B v → v ≤ A' → hOk E h2 → hFr h h2 (rdW r la ed w) → rdRm h h2 cap cap' v A' → cap' ≤ A' + 10 → h2.2.2 w = some (.inr (4, fsw.set 9 fi)) → q_box qtt B (k + 1) v lim (decide (wk = 4)) = false → cnt ≤ 3000 → mm_Go E d 37 (mm_blk 37 3) [.ref r, .ref w, .int (nI lim), .int (nI (17 - (k + 1))), .int (nI v), .int (nI (q_sz B v)), .int (nI (q_last B v)), bef, .int (nI cnt), x9] [] h2 Q := by
      intro h2 A' cap' fi bef x9 cnt g1 g2 g2' g3 g4 g5 g6 g7 g8 hcnt
      have g1' : h2.2.2 r = some (.inr (2, [.ref la, .ref row, .int (nI A'), .int (q_t true)])) := g1
      have go8 := fin8 h2 A' cap' fi bef x9 cnt g1 g2 g2' g3 g4 g5 g6 g7 g8
      repeat (first | refine gi_con ?_ | refine gi_bip (Nat.le_of_ble_eq_true rfl) ?_ | refine gi_sip (Nat.le_of_ble_eq_true rfl) ?_ | refine gi_ldc ?_ | refine gi_add ?_ | refine gi_inc rfl ?_ | refine gi_sub (by omega) ?_ | refine gi_mul ?_ | refine go_nx rfl ?_)
      first | refine gb_lt (by omega) (by omega) (fun c5 => ?_) (fun c5 => ?_) | refine gb_ge (by omega) (by omega) (fun c5 => ?_) (fun c5 => ?_) | refine gb_gt (by omega) (by omega) (fun c5 => ?_) (fun c5 => ?_) | refine gb_le (by omega) (by omega) (fun c5 => ?_) (fun c5 => ?_) | refine gb_eq (by omega) (by omega) (fun c5 => ?_) (fun c5 => ?_) | refine gb_ne (by omega) (by omega) (fun c5 => ?_) (fun c5 => ?_)
      · exact go8
      repeat (first | refine gi_con ?_ | refine gi_bip (Nat.le_of_ble_eq_true rfl) ?_ | refine gi_sip (Nat.le_of_ble_eq_true rfl) ?_ | refine gi_ldc ?_ | refine gi_add ?_ | refine gi_inc rfl ?_ | refine gi_sub (by omega) ?_ | refine gi_mul ?_ | refine go_nx rfl ?_)
      refine gf_get _ g1' (by decide) rfl ?_
      repeat (first | refine gi_con ?_ | refine gi_bip (Nat.le_of_ble_eq_true rfl) ?_ | refine gi_sip (Nat.le_of_ble_eq_true rfl) ?_ | refine gi_ldc ?_ | refine gi_add ?_ | refine gi_inc rfl ?_ | refine gi_sub (by omega) ?_ | refine gi_mul ?_ | refine go_nx rfl ?_)
      first | refine gb_lt (by omega) (by omega) (fun c6 => ?_) (fun c6 => ?_) | refine gb_ge (by omega) (by omega) (fun c6 => ?_) (fun c6 => ?_) | refine gb_gt (by omega) (by omega) (fun c6 => ?_) (fun c6 => ?_) | refine gb_le (by omega) (by omega) (fun c6 => ?_) (fun c6 => ?_) | refine gb_eq (by omega) (by omega) (fun c6 => ?_) (fun c6 => ?_) | refine gb_ne (by omega) (by omega) (fun c6 => ?_) (fun c6 => ?_)
      · exact go8
      repeat (first | refine gi_con ?_ | refine gi_bip (Nat.le_of_ble_eq_true rfl) ?_ | refine gi_sip (Nat.le_of_ble_eq_true rfl) ?_ | refine gi_ldc ?_ | refine gi_add ?_ | refine gi_inc rfl ?_ | refine gi_sub (by omega) ?_ | refine gi_mul ?_ | refine go_nx rfl ?_)
      refine gf_get _ g1' (by decide) rfl ?_
      refine gt_ne (fun _ => go8) (fun c => by cases c)
    have loop : ∀ (f p : Nat) (prev : List Nat) (h1 : mmH) (N1 : Nat → Nat) (ed1 cap1 : Nat) (bef x9 : Value),
        q_last B v < f + p → p ≤ q_last B v → q_run B p (v + 4) prev → (∀ x ∈ prev, q_ok B n x ∧ x < p) → (∀ x ∈ prev, v + 4 ≤ x ∧ q_ne B x < q_last B v ∧ q_vok (q_box qtt B k) B x (q_last B v) = true ∧ q_next B x ≤ p) → 2 * prev.length ≤ p →
        (∀ q, q < v → N1 q = N q) → (∀ x ∈ prev, h1.2.2 (N1 x) = some (nFull row B N1 (fun _ => 0) p x) ∧ (B x = 3 ∨ B x = 4 → nBox h1 row B N1 (fun _ => 0) k (q_val B x))) →
        rdNew h h1 N1 (q_preL B k prev) → (∀ y ∈ q_preL B k prev, y < p) → rdOk E h1 r la ed1 cap1 (Ls ++ (q_preL B k prev).map N1) row n B p → h1.2.2 w = some (.inr (4, fsw.set 9 (if prev = [] then .null else .ref (N1 (v + 4))))) → hFr h h1 (rdW r la ed w) → rdRm h h1 cap cap1 v p → (ed1 = ed ∨ h.1 ≤ ed1) →
        ((prev = [] ∧ bef = .null) ∨ ∃ pre0 xl, prev = pre0 ++ [xl] ∧ bef = .ref (N1 xl) ∧ q_next B xl = p) → q_box_els B v = prev ++ q_els B (q_last B v) f p →
        q_ch qtt (q_box qtt B k) B (decide (wk = 4)) (q_last B v) 2001 [] (v + 4) = q_ch qtt (q_box qtt B k) B (decide (wk = 4)) (q_last B v) f prev p →
        mm_Go E d 37 (mm_blk 37 3) [.ref r, .ref w, .int (nI lim), .int (nI (17 - (k + 1))), .int (nI v), .int (nI (q_sz B v)), .int (nI (q_last B v)), bef, .int (nI prev.length), x9] [] h1 Q := by
      intro f
      induction f with
      | zero => intro p prev h1 N1 ed1 cap1 bef x9 hf hp; omega
      | succ f ihf =>
        intro p prev h1 N1 ed1 cap1 bef x9 hf hp hrun hprev hpv hlen hN hnd hnew hlt hok hw1c hfr hrm hed hbef hels hch
        have hok0 := hok
        obtain ⟨o1, o2, o3, o4, o5, o6⟩ := hok
        have o1' : h1.2.2 r = some (.inr (2, [.ref la, .ref row, .int (nI p), .int (q_t false)])) := o1
        have hN1x : ∀ x ∈ prev, h.1 ≤ N1 x ∧ N1 x < h1.1 := fun x hx => hnew.1 x (List.mem_flatMap.mpr ⟨x, hx, List.mem_cons_self⟩)
        have hv4 : v ≤ p := hrm.2.2.1
        have hne9 : ∀ z, (fsw.set 9 z)[1]? = some (.int (nI wk)) ∧ (fsw.set 9 z)[9]? = some z := fun z => ⟨by rw [List.getElem?_set_ne (by decide)]; exact hw1, by rw [List.getElem?_set_self (by omega)]⟩
        repeat (first | refine gi_con ?_ | refine gi_bip (Nat.le_of_ble_eq_true rfl) ?_ | refine gi_sip (Nat.le_of_ble_eq_true rfl) ?_ | refine gi_ldc ?_ | refine gi_add ?_ | refine gi_inc rfl ?_ | refine gi_sub (by omega) ?_ | refine gi_mul ?_ | refine go_nx rfl ?_)
        first | refine gb_lt (by omega) (by omega) (fun c5 => ?_) (fun c5 => ?_) | refine gb_ge (by omega) (by omega) (fun c5 => ?_) (fun c5 => ?_) | refine gb_gt (by omega) (by omega) (fun c5 => ?_) (fun c5 => ?_) | refine gb_le (by omega) (by omega) (fun c5 => ?_) (fun c5 => ?_) | refine gb_eq (by omega) (by omega) (fun c5 => ?_) (fun c5 => ?_) | refine gb_ne (by omega) (by omega) (fun c5 => ?_) (fun c5 => ?_)
        · omega
        repeat (first | refine gi_con ?_ | refine gi_bip (Nat.le_of_ble_eq_true rfl) ?_ | refine gi_sip (Nat.le_of_ble_eq_true rfl) ?_ | refine gi_ldc ?_ | refine gi_add ?_ | refine gi_inc rfl ?_ | refine gi_sub (by omega) ?_ | refine gi_mul ?_ | refine go_nx rfl ?_)
        refine gf_get _ o1' (by decide) rfl ?_
        repeat (first | refine gi_con ?_ | refine gi_bip (Nat.le_of_ble_eq_true rfl) ?_ | refine gi_sip (Nat.le_of_ble_eq_true rfl) ?_ | refine gi_ldc ?_ | refine gi_add ?_ | refine gi_inc rfl ?_ | refine gi_sub (by omega) ?_ | refine gi_mul ?_ | refine go_nx rfl ?_)
        first | refine gb_lt (by omega) (by omega) (fun c6 => ?_) (fun c6 => ?_) | refine gb_ge (by omega) (by omega) (fun c6 => ?_) (fun c6 => ?_) | refine gb_gt (by omega) (by omega) (fun c6 => ?_) (fun c6 => ?_) | refine gb_le (by omega) (by omega) (fun c6 => ?_) (fun c6 => ?_) | refine gb_eq (by omega) (by omega) (fun c6 => ?_) (fun c6 => ?_) | refine gb_ne (by omega) (by omega) (fun c6 => ?_) (fun c6 => ?_)
        · have hpl : p = q_last B v := by omega
          rw [q_els_s, if_neg (by omega), List.append_nil] at hels
          have hch1 : q_ch qtt (q_box qtt B k) B (decide (wk = 4)) (q_last B v) 2001 [] (v + 4) = true := by
            rw [hch]
            unfold q_ch
            rw [if_neg (by omega)]
            exact decide_eq_true hpl
          have hb0 := o4.2.2.1 (q_last B v)
          repeat (first | refine gi_con ?_ | refine gi_bip (Nat.le_of_ble_eq_true rfl) ?_ | refine gi_sip (Nat.le_of_ble_eq_true rfl) ?_ | refine gi_ldc ?_ | refine gi_add ?_ | refine gi_inc rfl ?_ | refine gi_sub (by omega) ?_ | refine gi_mul ?_ | refine go_nx rfl ?_)
          refine gf_get _ o1' (by decide) rfl ?_
          repeat (first | refine gi_con ?_ | refine gi_bip (Nat.le_of_ble_eq_true rfl) ?_ | refine gi_sip (Nat.le_of_ble_eq_true rfl) ?_ | refine gi_ldc ?_ | refine gi_add ?_ | refine gi_inc rfl ?_ | refine gi_sub (by omega) ?_ | refine gi_mul ?_ | refine go_nx rfl ?_)
          first | refine gb_lt (by omega) (by omega) (fun c7 => ?_) (fun c7 => ?_) | refine gb_ge (by omega) (by omega) (fun c7 => ?_) (fun c7 => ?_) | refine gb_gt (by omega) (by omega) (fun c7 => ?_) (fun c7 => ?_) | refine gb_le (by omega) (by omega) (fun c7 => ?_) (fun c7 => ?_) | refine gb_eq (by omega) (by omega) (fun c7 => ?_) (fun c7 => ?_) | refine gb_ne (by omega) (by omega) (fun c7 => ?_) (fun c7 => ?_)
          · omega
          repeat (first | refine gi_con ?_ | refine gi_bip (Nat.le_of_ble_eq_true rfl) ?_ | refine gi_sip (Nat.le_of_ble_eq_true rfl) ?_ | refine gi_ldc ?_ | refine gi_add ?_ | refine gi_inc rfl ?_ | refine gi_sub (by omega) ?_ | refine gi_mul ?_ | refine go_nx rfl ?_)
          refine gf_get _ o1' (by decide) rfl ?_
          repeat (first | refine gi_con ?_ | refine gi_bip (Nat.le_of_ble_eq_true rfl) ?_ | refine gi_sip (Nat.le_of_ble_eq_true rfl) ?_ | refine gi_ldc ?_ | refine gi_add ?_ | refine gi_inc rfl ?_ | refine gi_sub (by omega) ?_ | refine gi_mul ?_ | refine go_nx rfl ?_)
          refine go_step ?_
          refine g_call (k := 11) rfl (by omega) (Nat.le_of_ble_eq_true rfl) rfl ?_
          refine sp_atN o4 (by omega) ?_
          first | refine gz_eq (by omega) (fun c8 => ?_) (fun c8 => ?_) | refine gz_ne (by omega) (fun c8 => ?_) (fun c8 => ?_) | refine gz_le (by omega) (fun c8 => ?_) (fun c8 => ?_) | refine gz_gt (by omega) (fun c8 => ?_) (fun c8 => ?_) | refine gz_lt (by omega) (fun c8 => ?_) (fun c8 => ?_) | refine gz_ge (by omega) (fun c8 => ?_) (fun c8 => ?_)
          · have hbt : q_box qtt B (k + 1) v lim (decide (wk = 4)) = true := by rw [hbx, hch1, decide_eq_true c8]; rfl
            repeat (first | refine gi_con ?_ | refine gi_bip (Nat.le_of_ble_eq_true rfl) ?_ | refine gi_sip (Nat.le_of_ble_eq_true rfl) ?_ | refine gi_ldc ?_ | refine gi_add ?_ | refine gi_inc rfl ?_ | refine gi_sub (by omega) ?_ | refine gi_mul ?_ | refine go_nx rfl ?_)
            refine gc_put (fs' := [.ref la, .ref row, .int (nI (q_last B v + 1)), .int (q_t false)]) o1' rfl (Nat.le_of_ble_eq_true rfl) rfl rfl ?_
            refine go_rt rfl ?_
            have hNr : ∀ b c, h1.2.2 b = some (.inr (4, c)) → (mm_set h1 r (rdC la row (q_last B v + 1) false)).2.2 b = h1.2.2 b := fun b c hb => hs_ne (fun q => by rw [q, o1'] at hb; cases hb)
            obtain ⟨m1, m2, m3, m4⟩ := hrm
            have hpre : q_pre B (k + 1) v = q_preL B k prev := by rw [q_pre_s, hels]
            refine hS (mm_set h1 r (rdC la row (q_last B v + 1) false)) N1 ed1 cap1 hbt hN ?_ ?_ ?_ ?_ (hFr_set2 hfr (Or.inl (Or.inl rfl))) ?_ hed
            · rw [nBox_s, hels]
              intro x hx
              obtain ⟨d1, d2⟩ := hnd x hx
              obtain ⟨e1, e2, e3, e4⟩ := hpv x hx
              refine ⟨by rw [hNr _ _ d1, d1, hpl], fun h34 => ?_⟩
              have hnext : q_next B x = q_val B x + q_sz B (q_val B x) := by
                unfold q_next q_ln
                rw [if_neg (by omega), if_neg (by omega), if_neg (by omega), if_neg (by omega), if_pos h34]
              have hlb : q_last B (q_val B x) ≤ p := by
                have := (q_vok_ok e2 e3).2 h34
                unfold q_last
                omega
              have hnd2 := nBox_nd (d2 h34)
              rcases h34 with h3' | h4'
              · exact nBox_fr (b := p) (fun _ _ => rfl) ((q_at_box e3).1 h3') hlb (fun y hy => by obtain ⟨c, hc⟩ := hnd2 y hy; exact hNr _ _ hc) (d2 (Or.inl h3'))
              · exact nBox_fr (b := p) (fun _ _ => rfl) ((q_at_box e3).2 h4') hlb (fun y hy => by obtain ⟨c, hc⟩ := hnd2 y hy; exact hNr _ _ hc) (d2 (Or.inr h4'))
            · rw [hpre]
              exact hnew
            · rw [hpre, ← hlast]
              refine ⟨hs_at, aL_fr o2 (hs_ne (fun q => by obtain ⟨mc1, hm⟩ := o2.1; rw [q, o1'] at hm; cases hm)) (fun ⟨x, hx⟩ => hs_ne (fun q => by rw [q, o1'] at hx; cases hx)), hOk_set2 o3 o1', bRow_set o4 o1', by omega, by omega⟩
            · rw [hs_ne hrw, hw1c]
              congr 4
              by_cases hpe : prev = []
              · rw [if_pos hpe]
                rw [hpe] at hrun
                have hrun : v + 4 = p := hrun
                rw [if_neg (by omega)]
              · rw [if_neg hpe]
                have : v + 4 < q_last B v := by
                  rcases q_run_lt hrow hrun hprev with ⟨e1, -⟩ | ⟨l2, -, e2⟩
                  · exact absurd e1 hpe
                  · omega
                rw [if_pos this]
            · rw [← hlast]
              exact ⟨by show h1.1 + v ≤ h.1 + (q_last B v + 1); omega, by show h1.2.1 + 4 * cap + 6 * v ≤ h.2.1 + 6 * (q_last B v + 1) + 4 * cap1; omega, by omega, m4⟩
          · have hbf : q_box qtt B (k + 1) v lim (decide (wk = 4)) = false := by rw [hbx, decide_eq_false (by omega)]; rfl
            refine go_jp rfl ?_
            repeat (first | refine gi_con ?_ | refine gi_bip (Nat.le_of_ble_eq_true rfl) ?_ | refine gi_sip (Nat.le_of_ble_eq_true rfl) ?_ | refine gi_ldc ?_ | refine gi_add ?_ | refine gi_inc rfl ?_ | refine gi_sub (by omega) ?_ | refine gi_mul ?_ | refine go_nx rfl ?_)
            refine gc_put (fs' := [.ref la, .ref row, .int (nI p), .int (q_t true)]) o1' rfl (Nat.le_of_ble_eq_true rfl) rfl rfl ?_
            refine go_jp rfl ?_
            repeat (first | refine gi_con ?_ | refine gi_bip (Nat.le_of_ble_eq_true rfl) ?_ | refine gi_sip (Nat.le_of_ble_eq_true rfl) ?_ | refine gi_ldc ?_ | refine gi_add ?_ | refine gi_inc rfl ?_ | refine gi_sub (by omega) ?_ | refine gi_mul ?_ | refine go_nx rfl ?_)
            refine gc_put (fs' := [.ref la, .ref row, .int (nI (q_last B v + 1)), .int (q_t true)]) hs_at rfl (Nat.le_of_ble_eq_true rfl) rfl rfl ?_
            rw [hs_set]
            refine go_rt rfl ?_
            obtain ⟨m1, m2, m3, m4⟩ := hrm
            exact hF (mm_set h1 r (rdC la row (q_last B v + 1) true)) (q_last B v + 1) cap1 _ hbf hs_at (by omega) (hOk_set2 o3 o1') (hFr_set2 hfr (Or.inl (Or.inl rfl))) ⟨by show h1.1 + v ≤ h.1 + (q_last B v + 1); omega, by show h1.2.1 + 4 * cap + 6 * v ≤ h.2.1 + 6 * (q_last B v + 1) + 4 * cap1; omega, by omega, m4⟩ (by omega) (by rw [hs_ne hrw]; exact hw1c)
        have hpl : p < q_last B v := by omega
        have hchs : q_ch qtt (q_box qtt B k) B (decide (wk = 4)) (q_last B v) (f + 1) prev p = (q_el qtt (q_box qtt B k) B (decide (wk = 4)) (q_last B v) prev p && q_ch qtt (q_box qtt B k) B (decide (wk = 4)) (q_last B v) f (prev ++ [p]) (q_next B p)) := by
          rw [q_ch, if_pos hpl]
        rw [hchs] at hch
        have hbad : q_el qtt (q_box qtt B k) B (decide (wk = 4)) (q_last B v) prev p = false → q_box qtt B (k + 1) v lim (decide (wk = 4)) = false := by
          intro e
          rw [hbx, hch, e, Bool.false_and, Bool.and_false]
        have hfrT : ∀ {h2 : mmH}, hFr h1 h2 (rdV r la ed1) → hFr h h2 (rdW r la ed w) := by
          intro h2 hf
          refine hFr_t hfr (hFr_m hf (fun b hb q => ?_)) |> fun z => z
          rcases q with q | q | q
          · exact Or.inl q
          · exact Or.inr (Or.inl q)
          · rcases hed with e | e
            · exact Or.inr (Or.inr (Or.inl (by rw [q, e])))
            · sorry
        sorry
    repeat (first | refine gi_con ?_ | refine gi_bip (Nat.le_of_ble_eq_true rfl) ?_ | refine gi_sip (Nat.le_of_ble_eq_true rfl) ?_ | refine gi_ldc ?_ | refine gi_add ?_ | refine gi_inc rfl ?_ | refine gi_sub (by omega) ?_ | refine gi_mul ?_ | refine go_nx rfl ?_)
    refine go_jp rfl ?_
    rw [show v + q_sz B v - 1 = q_last B v by unfold q_last; rfl]
    have hOk4 : rdOk E (mm_set h r (rdC la row (v + 4) false)) r la ed cap (Ls ++ (q_preL B k []).map N) row n B (v + 4) := by
      show rdOk E (mm_set h r (rdC la row (v + 4) false)) r la ed cap (Ls ++ []) row n B (v + 4)
      rw [List.append_nil]
      exact ⟨hs_at, aL_fr h2 (hs_ne (fun q => by rw [q, h1'] at hla; cases hla)) (fun ⟨x, hx⟩ => hs_ne (fun q => by rw [q, h1'] at hx; cases hx)), hOk_set2 h3 h1', bRow_set h4 h1', by omega, by omega⟩
    refine loop 2001 (v + 4) [] _ N ed cap _ _ (by omega) (by unfold q_last; omega) rfl (fun x hx => by cases hx) (fun x hx => by cases hx) (by simp) (fun _ _ => rfl) (fun x hx => by cases hx) ⟨fun x hx => absurd hx List.not_mem_nil, fun x hx => absurd hx List.not_mem_nil⟩ (fun x hx => absurd hx List.not_mem_nil) hOk4 (by rw [hs_ne hrw, if_pos rfl, set9 hw9]; exact hw) (hFr_set (Or.inl rfl)) ⟨by show h.1 + v ≤ h.1 + (v + 4); omega, by show h.2.1 + 4 * cap + 6 * v ≤ h.2.1 + 6 * (v + 4) + 4 * cap; omega, by omega, Nat.le_refl _⟩ (Or.inl rfl) (Or.inl ⟨rfl, rfl⟩) rfl rfl
end C
