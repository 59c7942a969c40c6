/-! THE LAW, from its start -/
theorem law_go {E : mmE} {b L : Nat} {xs : Nat → Int32} (hE : sE E) (hSt : sStr E) (hsc : E.2.2 0 b = some (.inl (1, L, xs)) ∧ b < E.1 ∧ L ≤ 3072) : mm_Go E 1000 173 (mm_blk 173 0) [.ref b, mm_un, mm_un, mm_un] [] (E.1, 0, fun _ => none) (lEnd E) := by
  have hk0 : hOk E ((E.1, 0, fun _ => none) : mmH) := ⟨Nat.le_refl _, fun _ _ => rfl, fun _ _ => rfl⟩
  have s0 : ((E.1, 0, fun _ => none) : mmH).1 = E.1 := rfl
  have t0 : ((E.1, 0, fun _ => none) : mmH).2.1 = 0 := rfl
  generalize ((E.1, 0, fun _ => none) : mmH) = h0 at hk0 s0 t0 ⊢
  refine gc_n0 rfl ?_
  refine go_nx rfl ?_
  refine go_step ?_
  refine g_call (k := 0) rfl (by omega) (Nat.le_of_ble_eq_true rfl) rfl ?_
  refine sp_cinit hk0 (fun h1 c1 c2 c3 k1 s1 t1 => ?_)
  refine go_nx rfl ?_
  refine gc_n10 rfl ?_
  refine go_nx rfl ?_
  refine go_step ?_
  refine g_call (k := 107) rfl (by omega) (Nat.le_of_ble_eq_true rfl) rfl ?_
  refine sp_mnew k1 (fun h2 hm k2 keep s2 t2 => ?_)
  have hw : wOk E h2 (fun _ => 0) := ⟨k2, fun b => by show 0 < h2.1; omega⟩
  have hI : lI E h0.1 h1.1 0 (0, fun _ => 0) none none (fun _ => none) h2 := by
    refine ⟨fun _ => 0, fun _ => 0, fun _ => 0, fun _ _ => 0, ⟨h0.1 + 1, h0.1 + 2, .null, .null, fun _ => 0, fun _ => none, fun _ => 0, fun _ => 0, 0, fun _ => 0, ⟨by rw [keep _ (by omega)]; exact c1, by rw [keep _ (by omega)]; exact c2⟩, hw, ⟨Nat.zero_le _, fun j hj => absurd hj (Nat.not_lt_zero _)⟩, by rw [keep _ (by omega)]; exact c3, fun _ => rfl, fun b hb => (by cases hb), fun _ => rfl, fun v hv => (by cases hv), fun i w hi hw => ⟨fun _ => rfl, fun p hp => (by cases hp)⟩, fun k k' a _ _ hg => (by cases hg)⟩, hm, mInv_0, ?_, ?_⟩
    · show h2.1 + 36 * 0 ≤ _
      omega
    · show h2.2.1 + 560 * 0 ≤ _
      rw [t1, t0] at t2
      exact Nat.le_trans t2 (Nat.le_of_ble_eq_true rfl)
  have go := law_loop hE hSt hsc L 0 (0, fun _ => 0) none none (fun _ => none) h2 (by omega) (by omega) hI
  refine go_nx rfl ?_
  refine gi_con ?_
  refine go_nx rfl ?_
  refine go_jp rfl ?_
  exact go
