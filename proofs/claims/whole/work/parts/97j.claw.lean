/-! THE LAW -/
section C
variable {E : mmE} {b L o om : Nat} {xs : Nat → Int32}
theorem take_le (t : qB) (n : Int32) : (s_take t n).1 ≤ t.1 := by
  unfold s_take
  split
  · exact Nat.le_refl _
  · exact Nat.zero_le _
theorem rm_c {a x b y e m : Nat} (k : a + 36 * x ≤ b + 36 * y + 20) (r : b + 36 * y ≤ e + 20 + 1171 * m) : a + 36 * x ≤ e + 20 + 1171 * (m + 1) := by omega
theorem rm_s {a x b y m : Nat} (k : a + 560 * x ≤ b + 560 * y + 300) (r : b + 560 * y ≤ 57100 + 14100 * m) : a + 560 * x ≤ 57100 + 14100 * (m + 1) := Nat.le_trans k (Nat.le_trans (Nat.add_le_add_right r 300) (by
  rw [Nat.mul_succ, ← Nat.add_assoc]
  exact Nat.add_le_add_left (Nat.le_of_ble_eq_true rfl) _))
theorem law_step {Q : Option Value → mmH → Prop} {m : Nat} (hE : sE E) (hSt : sStr E) (hsc : E.2.2 0 b = some (.inl (1, L, xs)) ∧ b < E.1 ∧ L ≤ 3072) (hm : 6 * m + 6 ≤ L) (t : qB) (F V : Option qB) (X : Nat → Option qX) (h : mmH) (hI : lI E o om m t F V X h)
    (b17 : ∀ (t : qB) (F V : Option qB) (X : Nat → Option qX) (h : mmH), lI E o om (m + 1) t F V X h → mm_Go E 1000 173 (mm_blk 173 17) [.ref b, .ref o, .ref om, .int (nI (6 * m))] [] h Q) : ∀ j, j < 16 → mm_Go E 1000 173 (mm_blk 173 ([2, 3, 4, 5, 6, 7, 8, 13, 14, 15, 16].getD j 17)) [.ref b, .ref o, .ref om, .int (nI (6 * m))] [] h Q := by
  have hL := hsc.2.2
  have hI0 := hI
  obtain ⟨own, R, I, C, ⟨ta, pa, pl, hl, f, g, N, O, row, B, hc⟩, hat, hmi, r1, r2⟩ := hI
  have hk : hOk E h := hc.2.1.1
  have hD := mD_idx om
  have room : ∀ h1 : mmH, h1.1 = h.1 → h1.2.1 = h.2.1 → h1.1 + 36 * t.1 ≤ E.1 + 20 + 1171 * (m + 1) ∧ h1.2.1 + 560 * t.1 ≤ 57100 + 14100 * (m + 1) := fun h1 e1 e2 => ⟨by omega, by omega⟩
  intro j hj
  rcases (show j = 0 ∨ j = 1 ∨ j = 2 ∨ j = 3 ∨ j = 4 ∨ j = 5 ∨ j = 6 ∨ j = 7 ∨ j = 8 ∨ j = 9 ∨ j = 10 ∨ 11 ≤ j by omega) with q | q | q | q | q | q | q | q | q | q | q | q
  · /- feed -/
    subst q
    show mm_Go E 1000 173 (mm_blk 173 2) _ _ _ _
    repeat (first | refine gl_ia hsc (by assumption) (by omega) ?_ | refine gi_con ?_ | refine gi_bip (Nat.le_of_ble_eq_true rfl) ?_ | refine gi_sip (Nat.le_of_ble_eq_true rfl) ?_ | refine gi_ldc ?_ | refine gi_add ?_ | refine gi_inc rfl ?_ | refine gi_sub (by omega) ?_ | refine gi_mul ?_ | refine go_nx rfl ?_)
    refine go_step ?_
    refine g_callV (by decide) (by decide) (Nat.le_of_ble_eq_true rfl) (Nat.le_of_ble_eq_true rfl) (cIx_rcv hc) (by omega) (Nat.le_of_ble_eq_true rfl) rfl ?_
    refine sp_cfeed (by omega) hc.1 hc.2.2.1.1 (fun j hj => (hc.2.2.1.2 j hj).1) (fun f' hf' => ?_)
    obtain ⟨k1, k2⟩ := cIx_feed hc hf'
    have fl := feed_len (t := t) (l := [xs (6 * m + 1), xs (6 * m + 2), xs (6 * m + 3), xs (6 * m + 4), xs (6 * m + 5)]) hc.2.2.1.1
    have mid := l_mid (m := m) hc hat k2 k1 (by show h.1 + _ ≤ _; omega) (by show h.2.1 + _ ≤ _; omega)
    have hk1 := mid.2.2.1
    generalize cSt h o ta pa (s_feed t [xs (6 * m + 1), xs (6 * m + 2), xs (6 * m + 3), xs (6 * m + 4), xs (6 * m + 5)]).1 pl hl f' = h1 at mid hk1 ⊢
    repeat (first | refine gl_ia hsc (by assumption) (by omega) ?_ | refine gi_con ?_ | refine gi_bip (Nat.le_of_ble_eq_true rfl) ?_ | refine gi_sip (Nat.le_of_ble_eq_true rfl) ?_ | refine gi_ldc ?_ | refine gi_add ?_ | refine gi_inc rfl ?_ | refine gi_sub (by omega) ?_ | refine gi_mul ?_ | refine go_nx rfl ?_)
    refine go_step ?_
    refine g_callV (by decide) (by decide) (Nat.le_of_ble_eq_true rfl) (Nat.le_of_ble_eq_true rfl) (lMid_rcv mid) (by omega) (Nat.le_of_ble_eq_true rfl) rfl ?_
    rw [← mH_self hD mid.2.1]
    refine sp_mfeed (by omega) hD hmi (fun R' I' C' hmi' => ?_)
    refine gy_eq (fun _ => ?_) (fun q => absurd rfl q)
    exact b17 _ _ _ _ _ (l_next mid hmi')
  · /- index -/
    subst q
    show mm_Go E 1000 173 (mm_blk 173 3) _ _ _ _
    repeat (first | refine gl_ia hsc (by assumption) (by omega) ?_ | refine gi_con ?_ | refine gi_bip (Nat.le_of_ble_eq_true rfl) ?_ | refine gi_sip (Nat.le_of_ble_eq_true rfl) ?_ | refine gi_ldc ?_ | refine gi_add ?_ | refine gi_inc rfl ?_ | refine gi_sub (by omega) ?_ | refine gi_mul ?_ | refine go_nx rfl ?_)
    refine go_step ?_
    refine g_callV (by decide) (by decide) (Nat.le_of_ble_eq_true rfl) (Nat.le_of_ble_eq_true rfl) (cIx_rcv hc) (by omega) (Nat.le_of_ble_eq_true rfl) rfl ?_
    refine sp_cindex (by omega) hc (fun h1 k1 k2 k3 k4 k5 => ?_)
    have mid := l_mid (m := m) hc hat k2 k1 (rm_c k3 r1) (rm_s k4 r2)
    have hk1 := mid.2.2.1
    repeat (first | refine gl_ia hsc (by assumption) (by omega) ?_ | refine gi_con ?_ | refine gi_bip (Nat.le_of_ble_eq_true rfl) ?_ | refine gi_sip (Nat.le_of_ble_eq_true rfl) ?_ | refine gi_ldc ?_ | refine gi_add ?_ | refine gi_inc rfl ?_ | refine gi_sub (by omega) ?_ | refine gi_mul ?_ | refine go_nx rfl ?_)
    refine go_step ?_
    refine g_callV (by decide) (by decide) (Nat.le_of_ble_eq_true rfl) (Nat.le_of_ble_eq_true rfl) (lMid_rcv mid) (by omega) (Nat.le_of_ble_eq_true rfl) rfl ?_
    rw [← mH_self hD mid.2.1]
    refine sp_mindex (by omega) hD hmi (fun R' I' C' hmi' => ?_)
    refine gy_eq (fun _ => ?_) (fun q => absurd rfl q)
    exact b17 _ _ _ _ _ (l_next mid hmi')
  · /- drop -/
    subst q
    show mm_Go E 1000 173 (mm_blk 173 4) _ _ _ _
    repeat (first | refine gl_ia hsc (by assumption) (by omega) ?_ | refine gi_con ?_ | refine gi_bip (Nat.le_of_ble_eq_true rfl) ?_ | refine gi_sip (Nat.le_of_ble_eq_true rfl) ?_ | refine gi_ldc ?_ | refine gi_add ?_ | refine gi_inc rfl ?_ | refine gi_sub (by omega) ?_ | refine gi_mul ?_ | refine go_nx rfl ?_)
    refine go_step ?_
    refine g_callV (by decide) (by decide) (Nat.le_of_ble_eq_true rfl) (Nat.le_of_ble_eq_true rfl) (cIx_rcv hc) (by omega) (Nat.le_of_ble_eq_true rfl) rfl ?_
    refine sp_cdrop (by omega) hc (fun h1 g' k1 k2 k3 k4 => ?_)
    have mid := l_mid (m := m) hc hat k4 ⟨_, _, _, _, _, _, _, _, _, _, k1⟩ (room h1 k2 k3).1 (room h1 k2 k3).2
    have hk1 := mid.2.2.1
    repeat (first | refine gl_ia hsc (by assumption) (by omega) ?_ | refine gi_con ?_ | refine gi_bip (Nat.le_of_ble_eq_true rfl) ?_ | refine gi_sip (Nat.le_of_ble_eq_true rfl) ?_ | refine gi_ldc ?_ | refine gi_add ?_ | refine gi_inc rfl ?_ | refine gi_sub (by omega) ?_ | refine gi_mul ?_ | refine go_nx rfl ?_)
    refine go_step ?_
    refine g_callV (by decide) (by decide) (Nat.le_of_ble_eq_true rfl) (Nat.le_of_ble_eq_true rfl) (lMid_rcv mid) (by omega) (Nat.le_of_ble_eq_true rfl) rfl ?_
    rw [← mH_self hD mid.2.1]
    refine sp_mdrop hD hmi (fun C' hmi' => ?_)
    refine gy_eq (fun _ => ?_) (fun q => absurd rfl q)
    exact b17 _ _ _ _ _ (l_next mid hmi')
  · /- filter -/
    subst q
    show mm_Go E 1000 173 (mm_blk 173 5) _ _ _ _
    repeat (first | refine gl_ia hsc (by assumption) (by omega) ?_ | refine gi_con ?_ | refine gi_bip (Nat.le_of_ble_eq_true rfl) ?_ | refine gi_sip (Nat.le_of_ble_eq_true rfl) ?_ | refine gi_ldc ?_ | refine gi_add ?_ | refine gi_inc rfl ?_ | refine gi_sub (by omega) ?_ | refine gi_mul ?_ | refine go_nx rfl ?_)
    refine go_step ?_
    refine g_callV (by decide) (by decide) (Nat.le_of_ble_eq_true rfl) (Nat.le_of_ble_eq_true rfl) (cIx_rcv hc) (by omega) (Nat.le_of_ble_eq_true rfl) rfl ?_
    refine sp_cfilter (by omega) hE hSt hc (fun h1 own1 k1 k2 k3 k4 k5 => ?_)
    have mid := l_mid (m := m) hc hat k2 k1 (rm_c k3 r1) (rm_s k4 r2)
    have hk1 := mid.2.2.1
    repeat (first | refine gl_ia hsc (by assumption) (by omega) ?_ | refine gi_con ?_ | refine gi_bip (Nat.le_of_ble_eq_true rfl) ?_ | refine gi_sip (Nat.le_of_ble_eq_true rfl) ?_ | refine gi_ldc ?_ | refine gi_add ?_ | refine gi_inc rfl ?_ | refine gi_sub (by omega) ?_ | refine gi_mul ?_ | refine go_nx rfl ?_)
    refine go_step ?_
    refine g_callV (by decide) (by decide) (Nat.le_of_ble_eq_true rfl) (Nat.le_of_ble_eq_true rfl) (lMid_rcv mid) (by omega) (Nat.le_of_ble_eq_true rfl) rfl ?_
    rw [← mH_self hD mid.2.1]
    refine sp_mfilter (by omega) hD hmi (fun B k h1 h2 h3 => fine_ok h1 (by
      unfold q_doc at h2
      rw [Bool.and_eq_true] at h2
      exact h2.2) h3) (fun R' I' C' hmi' => ?_)
    refine gy_eq (fun _ => ?_) (fun q => absurd rfl q)
    exact b17 _ _ _ _ _ (l_next mid hmi')
  · /- value -/
    subst q
    show mm_Go E 1000 173 (mm_blk 173 6) _ _ _ _
    repeat (first | refine gl_ia hsc (by assumption) (by omega) ?_ | refine gi_con ?_ | refine gi_bip (Nat.le_of_ble_eq_true rfl) ?_ | refine gi_sip (Nat.le_of_ble_eq_true rfl) ?_ | refine gi_ldc ?_ | refine gi_add ?_ | refine gi_inc rfl ?_ | refine gi_sub (by omega) ?_ | refine gi_mul ?_ | refine go_nx rfl ?_)
    refine go_step ?_
    refine g_callV (by decide) (by decide) (Nat.le_of_ble_eq_true rfl) (Nat.le_of_ble_eq_true rfl) (cIx_rcv hc) (by omega) (Nat.le_of_ble_eq_true rfl) rfl ?_
    refine sp_cvalue (by omega) hE hSt hc (cIx_pl hc) (fun h1 k1 k2 k3 k4 k5 => ?_)
    have mid := l_mid (m := m) hc hat k2 k1 (rm_c k3 r1) (rm_s k4 r2)
    have hk1 := mid.2.2.1
    repeat (first | refine gl_ia hsc (by assumption) (by omega) ?_ | refine gi_con ?_ | refine gi_bip (Nat.le_of_ble_eq_true rfl) ?_ | refine gi_sip (Nat.le_of_ble_eq_true rfl) ?_ | refine gi_ldc ?_ | refine gi_add ?_ | refine gi_inc rfl ?_ | refine gi_sub (by omega) ?_ | refine gi_mul ?_ | refine go_nx rfl ?_)
    refine go_step ?_
    refine g_callV (by decide) (by decide) (Nat.le_of_ble_eq_true rfl) (Nat.le_of_ble_eq_true rfl) (lMid_rcv mid) (by omega) (Nat.le_of_ble_eq_true rfl) rfl ?_
    rw [← mH_self hD mid.2.1]
    refine sp_mvalue (by omega) hD hmi (fun R' I' C' hmi' => ?_)
    refine gy_eq (fun _ => ?_) (fun q => absurd rfl q)
    exact b17 _ _ _ _ _ (l_next mid hmi')
  · /- many -/
    subst q
    show mm_Go E 1000 173 (mm_blk 173 7) _ _ _ _
    repeat (first | refine gl_ia hsc (by assumption) (by omega) ?_ | refine gi_con ?_ | refine gi_bip (Nat.le_of_ble_eq_true rfl) ?_ | refine gi_sip (Nat.le_of_ble_eq_true rfl) ?_ | refine gi_ldc ?_ | refine gi_add ?_ | refine gi_inc rfl ?_ | refine gi_sub (by omega) ?_ | refine gi_mul ?_ | refine go_nx rfl ?_)
    refine go_step ?_
    refine g_callV (by decide) (by decide) (Nat.le_of_ble_eq_true rfl) (Nat.le_of_ble_eq_true rfl) (cIx_rcv hc) (by omega) (Nat.le_of_ble_eq_true rfl) rfl ?_
    refine sp_cmany (by omega) hc (fun h1 hs => ?_)
    have mid := l_mid (m := m) hc hat hs.2.2.2 ⟨_, _, _, _, _, _, _, _, _, _, hs.1⟩ (room h1 hs.2.1 hs.2.2.1).1 (room h1 hs.2.1 hs.2.2.1).2
    have hk1 := mid.2.2.1
    repeat (first | refine gl_ia hsc (by assumption) (by omega) ?_ | refine gi_con ?_ | refine gi_bip (Nat.le_of_ble_eq_true rfl) ?_ | refine gi_sip (Nat.le_of_ble_eq_true rfl) ?_ | refine gi_ldc ?_ | refine gi_add ?_ | refine gi_inc rfl ?_ | refine gi_sub (by omega) ?_ | refine gi_mul ?_ | refine go_nx rfl ?_)
    refine go_step ?_
    refine g_callV (by decide) (by decide) (Nat.le_of_ble_eq_true rfl) (Nat.le_of_ble_eq_true rfl) (lMid_rcv mid) (by omega) (Nat.le_of_ble_eq_true rfl) rfl ?_
    rw [← mH_self hD mid.2.1]
    refine sp_mmany (by omega) hD hmi (fun I' C' hmi' => ?_)
    refine gy_eq (fun _ => ?_) (fun q => absurd rfl q)
    exact b17 _ _ _ _ _ (l_next mid hmi')
  · /- end -/
    subst q
    show mm_Go E 1000 173 (mm_blk 173 8) _ _ _ _
    have twelve : ∀ (high : Bool) (h1 : mmH), lMid E o om m t F V X I C h1 → mm_Go E 1000 173 (mm_blk 173 12) [.ref b, .ref o, .ref om, .int (nI (6 * m))] [.int (q_t high), .int (xs (6 * m + 3)), .int (xs (6 * m + 2)), .int (xs (6 * m + 1)), .ref om, .int (a_end F X (xs (6 * m + 1)) (xs (6 * m + 2)) (xs (6 * m + 3)) high (xs (6 * m + 5)))] h1 Q := by
      intro high h1 mid
      have hk1 := mid.2.2.1
      repeat (first | refine gl_ia hsc (by assumption) (by omega) ?_ | refine gi_con ?_ | refine gi_bip (Nat.le_of_ble_eq_true rfl) ?_ | refine gi_sip (Nat.le_of_ble_eq_true rfl) ?_ | refine gi_ldc ?_ | refine gi_add ?_ | refine gi_inc rfl ?_ | refine gi_sub (by omega) ?_ | refine gi_mul ?_ | refine go_nx rfl ?_)
      refine go_step ?_
      refine g_callV (by decide) (by decide) (Nat.le_of_ble_eq_true rfl) (Nat.le_of_ble_eq_true rfl) (lMid_rcv mid) (by omega) (Nat.le_of_ble_eq_true rfl) rfl ?_
      rw [← mH_self hD mid.2.1]
      refine sp_mend (by omega) hD hmi (fun I' C' hmi' => ?_)
      refine gy_eq (fun _ => ?_) (fun q => absurd rfl q)
      exact b17 _ _ _ _ _ (l_next mid hmi')
    have ten : ∀ high : Bool, (xs (6 * m + 4) = 0 ↔ high = false) → mm_Go E 1000 173 (mm_blk 173 10) [.ref b, .ref o, .ref om, .int (nI (6 * m))] [.int (q_t high), .int (xs (6 * m + 3)), .int (xs (6 * m + 2)), .int (xs (6 * m + 1)), .ref o] h Q := by
      intro high hhi
      repeat (first | refine gl_ia hsc (by assumption) (by omega) ?_ | refine gi_con ?_ | refine gi_bip (Nat.le_of_ble_eq_true rfl) ?_ | refine gi_sip (Nat.le_of_ble_eq_true rfl) ?_ | refine gi_ldc ?_ | refine gi_add ?_ | refine gi_inc rfl ?_ | refine gi_sub (by omega) ?_ | refine gi_mul ?_ | refine go_nx rfl ?_)
      refine go_step ?_
      refine g_callV (by decide) (by decide) (Nat.le_of_ble_eq_true rfl) (Nat.le_of_ble_eq_true rfl) (cIx_rcv hc) (by omega) (Nat.le_of_ble_eq_true rfl) rfl ?_
      refine sp_cend (by omega) hc (fun h1 hs => ?_)
      have mid := l_mid (m := m) hc hat hs.2.2.2 ⟨_, _, _, _, _, _, _, _, _, _, hs.1⟩ (room h1 hs.2.1 hs.2.2.1).1 (room h1 hs.2.1 hs.2.2.1).2
      have hk1 := mid.2.2.1
      repeat (first | refine gl_ia hsc (by assumption) (by omega) ?_ | refine gi_con ?_ | refine gi_bip (Nat.le_of_ble_eq_true rfl) ?_ | refine gi_sip (Nat.le_of_ble_eq_true rfl) ?_ | refine gi_ldc ?_ | refine gi_add ?_ | refine gi_inc rfl ?_ | refine gi_sub (by omega) ?_ | refine gi_mul ?_ | refine go_nx rfl ?_)
      refine gx_eq (fun c1 => ?_) (fun c1 => ?_)
      · have e := hhi.mp c1
        subst e
        repeat (first | refine gl_ia hsc (by assumption) (by omega) ?_ | refine gi_con ?_ | refine gi_bip (Nat.le_of_ble_eq_true rfl) ?_ | refine gi_sip (Nat.le_of_ble_eq_true rfl) ?_ | refine gi_ldc ?_ | refine gi_add ?_ | refine gi_inc rfl ?_ | refine gi_sub (by omega) ?_ | refine gi_mul ?_ | refine go_nx rfl ?_)
        refine go_jp rfl ?_
        exact twelve false h1 mid
      · have e : high = true := by
          cases high with
          | true => rfl
          | false => exact absurd (hhi.mpr rfl) c1
        subst e
        repeat (first | refine gl_ia hsc (by assumption) (by omega) ?_ | refine gi_con ?_ | refine gi_bip (Nat.le_of_ble_eq_true rfl) ?_ | refine gi_sip (Nat.le_of_ble_eq_true rfl) ?_ | refine gi_ldc ?_ | refine gi_add ?_ | refine gi_inc rfl ?_ | refine gi_sub (by omega) ?_ | refine gi_mul ?_ | refine go_nx rfl ?_)
        refine go_jp rfl ?_
        exact twelve true h1 mid
    repeat (first | refine gl_ia hsc (by assumption) (by omega) ?_ | refine gi_con ?_ | refine gi_bip (Nat.le_of_ble_eq_true rfl) ?_ | refine gi_sip (Nat.le_of_ble_eq_true rfl) ?_ | refine gi_ldc ?_ | refine gi_add ?_ | refine gi_inc rfl ?_ | refine gi_sub (by omega) ?_ | refine gi_mul ?_ | refine go_nx rfl ?_)
    refine gx_eq (fun c1 => ?_) (fun c1 => ?_)
    · repeat (first | refine gl_ia hsc (by assumption) (by omega) ?_ | refine gi_con ?_ | refine gi_bip (Nat.le_of_ble_eq_true rfl) ?_ | refine gi_sip (Nat.le_of_ble_eq_true rfl) ?_ | refine gi_ldc ?_ | refine gi_add ?_ | refine gi_inc rfl ?_ | refine gi_sub (by omega) ?_ | refine gi_mul ?_ | refine go_nx rfl ?_)
      refine go_jp rfl ?_
      exact ten false ⟨fun _ => rfl, fun _ => c1⟩
    · repeat (first | refine gl_ia hsc (by assumption) (by omega) ?_ | refine gi_con ?_ | refine gi_bip (Nat.le_of_ble_eq_true rfl) ?_ | refine gi_sip (Nat.le_of_ble_eq_true rfl) ?_ | refine gi_ldc ?_ | refine gi_add ?_ | refine gi_inc rfl ?_ | refine gi_sub (by omega) ?_ | refine gi_mul ?_ | refine go_nx rfl ?_)
      refine go_jp rfl ?_
      exact ten true ⟨fun q => absurd q c1, fun q => by cases q⟩
  · /- inside -/
    subst q
    show mm_Go E 1000 173 (mm_blk 173 13) _ _ _ _
    repeat (first | refine gl_ia hsc (by assumption) (by omega) ?_ | refine gi_con ?_ | refine gi_bip (Nat.le_of_ble_eq_true rfl) ?_ | refine gi_sip (Nat.le_of_ble_eq_true rfl) ?_ | refine gi_ldc ?_ | refine gi_add ?_ | refine gi_inc rfl ?_ | refine gi_sub (by omega) ?_ | refine gi_mul ?_ | refine go_nx rfl ?_)
    refine go_step ?_
    refine g_callV (by decide) (by decide) (Nat.le_of_ble_eq_true rfl) (Nat.le_of_ble_eq_true rfl) (cIx_rcv hc) (by omega) (Nat.le_of_ble_eq_true rfl) rfl ?_
    refine sp_cinside (by omega) hc (fun h1 hs => ?_)
    have mid := l_mid (m := m) hc hat hs.2.2.2 ⟨_, _, _, _, _, _, _, _, _, _, hs.1⟩ (room h1 hs.2.1 hs.2.2.1).1 (room h1 hs.2.1 hs.2.2.1).2
    have hk1 := mid.2.2.1
    repeat (first | refine gl_ia hsc (by assumption) (by omega) ?_ | refine gi_con ?_ | refine gi_bip (Nat.le_of_ble_eq_true rfl) ?_ | refine gi_sip (Nat.le_of_ble_eq_true rfl) ?_ | refine gi_ldc ?_ | refine gi_add ?_ | refine gi_inc rfl ?_ | refine gi_sub (by omega) ?_ | refine gi_mul ?_ | refine go_nx rfl ?_)
    refine go_step ?_
    refine g_callV (by decide) (by decide) (Nat.le_of_ble_eq_true rfl) (Nat.le_of_ble_eq_true rfl) (lMid_rcv mid) (by omega) (Nat.le_of_ble_eq_true rfl) rfl ?_
    rw [← mH_self hD mid.2.1]
    refine sp_minside (by omega) hD hmi (fun I' C' hmi' => ?_)
    refine gy_eq (fun _ => ?_) (fun q => absurd rfl q)
    exact b17 _ _ _ _ _ (l_next mid hmi')
  · /- rank -/
    subst q
    show mm_Go E 1000 173 (mm_blk 173 14) _ _ _ _
    repeat (first | refine gl_ia hsc (by assumption) (by omega) ?_ | refine gi_con ?_ | refine gi_bip (Nat.le_of_ble_eq_true rfl) ?_ | refine gi_sip (Nat.le_of_ble_eq_true rfl) ?_ | refine gi_ldc ?_ | refine gi_add ?_ | refine gi_inc rfl ?_ | refine gi_sub (by omega) ?_ | refine gi_mul ?_ | refine go_nx rfl ?_)
    refine go_step ?_
    refine g_callV (by decide) (by decide) (Nat.le_of_ble_eq_true rfl) (Nat.le_of_ble_eq_true rfl) (cIx_rcv hc) (by omega) (Nat.le_of_ble_eq_true rfl) rfl ?_
    refine sp_crank (by omega) hc (fun h1 hs => ?_)
    have mid := l_mid (m := m) hc hat hs.2.2.2 ⟨_, _, _, _, _, _, _, _, _, _, hs.1⟩ (room h1 hs.2.1 hs.2.2.1).1 (room h1 hs.2.1 hs.2.2.1).2
    have hk1 := mid.2.2.1
    repeat (first | refine gl_ia hsc (by assumption) (by omega) ?_ | refine gi_con ?_ | refine gi_bip (Nat.le_of_ble_eq_true rfl) ?_ | refine gi_sip (Nat.le_of_ble_eq_true rfl) ?_ | refine gi_ldc ?_ | refine gi_add ?_ | refine gi_inc rfl ?_ | refine gi_sub (by omega) ?_ | refine gi_mul ?_ | refine go_nx rfl ?_)
    refine go_step ?_
    refine g_callV (by decide) (by decide) (Nat.le_of_ble_eq_true rfl) (Nat.le_of_ble_eq_true rfl) (lMid_rcv mid) (by omega) (Nat.le_of_ble_eq_true rfl) rfl ?_
    rw [← mH_self hD mid.2.1]
    refine sp_mrank (by omega) hD hmi (fun I' C' hmi' => ?_)
    refine gy_eq (fun _ => ?_) (fun q => absurd rfl q)
    exact b17 _ _ _ _ _ (l_next mid hmi')
  · /- ranges -/
    subst q
    show mm_Go E 1000 173 (mm_blk 173 15) _ _ _ _
    repeat (first | refine gl_ia hsc (by assumption) (by omega) ?_ | refine gi_con ?_ | refine gi_bip (Nat.le_of_ble_eq_true rfl) ?_ | refine gi_sip (Nat.le_of_ble_eq_true rfl) ?_ | refine gi_ldc ?_ | refine gi_add ?_ | refine gi_inc rfl ?_ | refine gi_sub (by omega) ?_ | refine gi_mul ?_ | refine go_nx rfl ?_)
    refine go_step ?_
    refine g_callV (by decide) (by decide) (Nat.le_of_ble_eq_true rfl) (Nat.le_of_ble_eq_true rfl) (cIx_rcv hc) (by omega) (Nat.le_of_ble_eq_true rfl) rfl ?_
    refine sp_cranges (by omega) hc (fun h1 hs => ?_)
    have mid := l_mid (m := m) hc hat hs.2.2.2 ⟨_, _, _, _, _, _, _, _, _, _, hs.1⟩ (room h1 hs.2.1 hs.2.2.1).1 (room h1 hs.2.1 hs.2.2.1).2
    have hk1 := mid.2.2.1
    repeat (first | refine gl_ia hsc (by assumption) (by omega) ?_ | refine gi_con ?_ | refine gi_bip (Nat.le_of_ble_eq_true rfl) ?_ | refine gi_sip (Nat.le_of_ble_eq_true rfl) ?_ | refine gi_ldc ?_ | refine gi_add ?_ | refine gi_inc rfl ?_ | refine gi_sub (by omega) ?_ | refine gi_mul ?_ | refine go_nx rfl ?_)
    refine go_step ?_
    refine g_callV (by decide) (by decide) (Nat.le_of_ble_eq_true rfl) (Nat.le_of_ble_eq_true rfl) (lMid_rcv mid) (by omega) (Nat.le_of_ble_eq_true rfl) rfl ?_
    rw [← mH_self hD mid.2.1]
    refine sp_mranges (by omega) hD hmi (fun I' C' hmi' => ?_)
    refine gy_eq (fun _ => ?_) (fun q => absurd rfl q)
    exact b17 _ _ _ _ _ (l_next mid hmi')
  · /- choose -/
    subst q
    show mm_Go E 1000 173 (mm_blk 173 16) _ _ _ _
    repeat (first | refine gl_ia hsc (by assumption) (by omega) ?_ | refine gi_con ?_ | refine gi_bip (Nat.le_of_ble_eq_true rfl) ?_ | refine gi_sip (Nat.le_of_ble_eq_true rfl) ?_ | refine gi_ldc ?_ | refine gi_add ?_ | refine gi_inc rfl ?_ | refine gi_sub (by omega) ?_ | refine gi_mul ?_ | refine go_nx rfl ?_)
    refine go_step ?_
    refine g_callV (by decide) (by decide) (Nat.le_of_ble_eq_true rfl) (Nat.le_of_ble_eq_true rfl) (cIx_rcv hc) (by omega) (Nat.le_of_ble_eq_true rfl) rfl ?_
    refine sp_cchoose (by omega) hc (fun h1 hs => ?_)
    have mid := l_mid (m := m) hc hat hs.2.2.2 ⟨_, _, _, _, _, _, _, _, _, _, hs.1⟩ (room h1 hs.2.1 hs.2.2.1).1 (room h1 hs.2.1 hs.2.2.1).2
    have hk1 := mid.2.2.1
    repeat (first | refine gl_ia hsc (by assumption) (by omega) ?_ | refine gi_con ?_ | refine gi_bip (Nat.le_of_ble_eq_true rfl) ?_ | refine gi_sip (Nat.le_of_ble_eq_true rfl) ?_ | refine gi_ldc ?_ | refine gi_add ?_ | refine gi_inc rfl ?_ | refine gi_sub (by omega) ?_ | refine gi_mul ?_ | refine go_nx rfl ?_)
    refine go_step ?_
    refine g_callV (by decide) (by decide) (Nat.le_of_ble_eq_true rfl) (Nat.le_of_ble_eq_true rfl) (lMid_rcv mid) (by omega) (Nat.le_of_ble_eq_true rfl) rfl ?_
    rw [← mH_self hD mid.2.1]
    refine sp_mchoose (by omega) hD hmi (fun I' C' hmi' => ?_)
    refine gy_eq (fun _ => ?_) (fun q => absurd rfl q)
    exact b17 _ _ _ _ _ (l_next mid hmi')
  · /- no call -/
    have e : [2, 3, 4, 5, 6, 7, 8, 13, 14, 15, 16].getD j 17 = 17 := by
      have : ∀ j, j < 16 → 11 ≤ j → [2, 3, 4, 5, 6, 7, 8, 13, 14, 15, 16].getD j 17 = 17 := by decide
      exact this j hj q
    rw [e]
    refine b17 t F V X h ?_
    obtain ⟨own, R, I, C, a1, a2, a3, a4, a5⟩ := hI0
    exact ⟨own, R, I, C, a1, a2, a3, by omega, by omega⟩
def lEnd (E : mmE) (r : Option Value) (h : mmH) : Prop := r = some (.int 1) ∧ h.1 ≤ E.1 + 600000 ∧ h.2.1 ≤ 7302250
theorem law_last (hE : sE E) (hSt : sStr E) (hsc : E.2.2 0 b = some (.inl (1, L, xs)) ∧ b < E.1 ∧ L ≤ 3072) (m : Nat) (t : qB) (F V : Option qB) (X : Nat → Option qX) (h : mmH) (hk0 : L ≤ 6 * m + 5) (hmL : 6 * m ≤ L) (hI : lI E o om m t F V X h) : mm_Go E 1000 173 (mm_blk 173 1) [.ref b, .ref o, .ref om, .int (nI (6 * m))] [] h (lEnd E) := by
  have hL := hsc.2.2
  have fin : mm_Go E 1000 173 (mm_blk 173 18) [.ref b, .ref o, .ref om, .int (nI (6 * m))] [] h (lEnd E) := by
    obtain ⟨own, R, I, C, a1, a2, a3, a4, a5⟩ := hI
    repeat (first | refine gl_ia hsc (by assumption) (by omega) ?_ | refine gi_con ?_ | refine gi_bip (Nat.le_of_ble_eq_true rfl) ?_ | refine gi_sip (Nat.le_of_ble_eq_true rfl) ?_ | refine gi_ldc ?_ | refine gi_add ?_ | refine gi_inc rfl ?_ | refine gi_sub (by omega) ?_ | refine gi_mul ?_ | refine go_nx rfl ?_)
    refine go_rt rfl ?_
    exact ⟨rfl, by omega, by omega⟩
  have hk : hOk E h := by
    obtain ⟨own, R, I, C, ⟨_, _, _, _, _, _, _, _, _, _, -, w, -⟩, -⟩ := hI
    exact w.1
  by_cases h6 : 6 ≤ L
  · repeat (first | refine gl_ia hsc (by assumption) (by omega) ?_ | refine gi_con ?_ | refine gi_bip (Nat.le_of_ble_eq_true rfl) ?_ | refine gi_sip (Nat.le_of_ble_eq_true rfl) ?_ | refine gi_ldc ?_ | refine gi_add ?_ | refine gi_inc rfl ?_ | refine gi_sub (by omega) ?_ | refine gi_mul ?_ | refine go_nx rfl ?_)
    refine go_step (g_alen (gl_len hsc hk) ?_)
    rw [show Int32.ofNat L = nI L from rfl]
    repeat (first | refine gl_ia hsc (by assumption) (by omega) ?_ | refine gi_con ?_ | refine gi_bip (Nat.le_of_ble_eq_true rfl) ?_ | refine gi_sip (Nat.le_of_ble_eq_true rfl) ?_ | refine gi_ldc ?_ | refine gi_add ?_ | refine gi_inc rfl ?_ | refine gi_sub (by omega) ?_ | refine gi_mul ?_ | refine go_nx rfl ?_)
    first | refine gb_lt (by omega) (by omega) (fun c => ?_) (fun c => ?_) | refine gb_ge (by omega) (by omega) (fun c => ?_) (fun c => ?_) | refine gb_gt (by omega) (by omega) (fun c => ?_) (fun c => ?_) | refine gb_le (by omega) (by omega) (fun c => ?_) (fun c => ?_) | refine gb_eq (by omega) (by omega) (fun c => ?_) (fun c => ?_) | refine gb_ne (by omega) (by omega) (fun c => ?_) (fun c => ?_)
    · exact fin
    · omega
  · have hm0 : m = 0 := by omega
    subst hm0
    refine go_nx rfl ?_
    refine go_nx rfl ?_
    refine go_step (g_alen (gl_len hsc hk) ?_)
    rw [show Int32.ofNat L = nI L from rfl]
    refine gi_bip (Nat.le_of_ble_eq_true rfl) ?_
    refine go_nx rfl ?_
    refine gy_gt (fun _ => fin) (fun q => ?_)
    have : ∀ L, L < 6 → nI L - nI 6 < nI (6 * 0) := by decide +kernel
    exact absurd (this L (by omega)) q
theorem law_loop (hE : sE E) (hSt : sStr E) (hsc : E.2.2 0 b = some (.inl (1, L, xs)) ∧ b < E.1 ∧ L ≤ 3072) : ∀ (k m : Nat) (t : qB) (F V : Option qB) (X : Nat → Option qX) (h : mmH), L ≤ 6 * m + 6 * k + 5 → (6 * m ≤ L) → lI E o om m t F V X h → mm_Go E 1000 173 (mm_blk 173 1) [.ref b, .ref o, .ref om, .int (nI (6 * m))] [] h (lEnd E) := by
  have hL := hsc.2.2
  intro k
  induction k with
  | zero =>
    intro m t F V X h hk0 hmL hI
    exact law_last hE hSt hsc m t F V X h (by omega) hmL hI
  | succ k ih =>
    intro m t F V X h hk0 hmL hI
    by_cases hlast : L ≤ 6 * m + 5
    · exact law_last hE hSt hsc m t F V X h hlast hmL hI
    have hk : hOk E h := by
      obtain ⟨own, R, I, C, ⟨_, _, _, _, _, _, _, _, _, _, -, w, -⟩, -⟩ := hI
      exact w.1
    repeat (first | refine gl_ia hsc (by assumption) (by omega) ?_ | refine gi_con ?_ | refine gi_bip (Nat.le_of_ble_eq_true rfl) ?_ | refine gi_sip (Nat.le_of_ble_eq_true rfl) ?_ | refine gi_ldc ?_ | refine gi_add ?_ | refine gi_inc rfl ?_ | refine gi_sub (by omega) ?_ | refine gi_mul ?_ | refine go_nx rfl ?_)
    refine go_step (g_alen (gl_len hsc hk) ?_)
    rw [show Int32.ofNat L = nI L from rfl]
    repeat (first | refine gl_ia hsc (by assumption) (by omega) ?_ | refine gi_con ?_ | refine gi_bip (Nat.le_of_ble_eq_true rfl) ?_ | refine gi_sip (Nat.le_of_ble_eq_true rfl) ?_ | refine gi_ldc ?_ | refine gi_add ?_ | refine gi_inc rfl ?_ | refine gi_sub (by omega) ?_ | refine gi_mul ?_ | refine go_nx rfl ?_)
    first | refine gb_lt (by omega) (by omega) (fun c => ?_) (fun c => ?_) | refine gb_ge (by omega) (by omega) (fun c => ?_) (fun c => ?_) | refine gb_gt (by omega) (by omega) (fun c => ?_) (fun c => ?_) | refine gb_le (by omega) (by omega) (fun c => ?_) (fun c => ?_) | refine gb_eq (by omega) (by omega) (fun c => ?_) (fun c => ?_) | refine gb_ne (by omega) (by omega) (fun c => ?_) (fun c => ?_)
    · omega
    repeat (first | refine gl_ia hsc (by assumption) (by omega) ?_ | refine gi_con ?_ | refine gi_bip (Nat.le_of_ble_eq_true rfl) ?_ | refine gi_sip (Nat.le_of_ble_eq_true rfl) ?_ | refine gi_ldc ?_ | refine gi_add ?_ | refine gi_inc rfl ?_ | refine gi_sub (by omega) ?_ | refine gi_mul ?_ | refine go_nx rfl ?_)
    obtain ⟨j, hj, e⟩ := and15 (xs (6 * m))
    refine go_jp rfl ?_
    show mm_Go E 1000 173 (mm_blk 173 (mm_sw 17 0 [2, 3, 4, 5, 6, 7, 8, 13, 14, 15, 16] (xs (6 * m) &&& nI 15))) _ _ _ _
    rw [e, and_sw j hj]
    refine law_step hE hSt hsc (by omega) t F V X h hI (fun t F V X h hI => ?_) j hj
    repeat (first | refine gl_ia hsc (by assumption) (by omega) ?_ | refine gi_con ?_ | refine gi_bip (Nat.le_of_ble_eq_true rfl) ?_ | refine gi_sip (Nat.le_of_ble_eq_true rfl) ?_ | refine gi_ldc ?_ | refine gi_add ?_ | refine gi_inc rfl ?_ | refine gi_sub (by omega) ?_ | refine gi_mul ?_ | refine go_nx rfl ?_)
    refine go_jp rfl ?_
    exact ih (m + 1) t F V X h (by omega) (by omega) hI
end C
