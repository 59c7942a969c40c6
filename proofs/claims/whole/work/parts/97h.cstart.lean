/-! THE START: the two constructors -/
theorem gc_newT {E : mmE} {d m pc : Nat} {is : List mmI} {L S : List Value} {h : mmH} {Q : Option Value → mmH → Prop} {ex : List Nat} {n t : Nat} (hn : n ≤ 1000000) (h0 : mm_k0 ex = t) {at_ : ArrayType} (hg : mm_Go E d m is L (.ref h.1 :: S) (mm_new h n (.inl (t, n, .inl fun _ => 0))) Q) : mm_Go E d m ((pc, .newarray at_, ex) :: is) L (.int (nI n) :: S) h Q := by
  refine go_nx (L' := L) (S' := .ref h.1 :: S) (h' := mm_new h n (.inl (t, n, .inl fun _ => 0))) ?_ hg
  show (if nI n < 0 ∨ 1000000 < nI n then mm_bad else mm_nx L (.ref h.1 :: S) (mm_new h (nI n).toNatClampNeg (.inl (mm_k0 ex, (nI n).toNatClampNeg, .inl fun _ => 0)))) = _
  rw [if_neg (fun q => q.elim (nI_pos (by omega)) (fun q => absurd ((nI_ltI (a := 1000000) (by decide) (by omega)).mp q) (by omega))), nI_clamp (by omega), h0]
theorem gc_n0 {E : mmE} {d m pc idx : Nat} {is : List mmI} {L S : List Value} {h : mmH} {Q : Option Value → mmH → Prop} {ex : List Nat} (h0 : mm_k0 ex = 0) (hg : mm_Go E d m is L (.ref h.1 :: S) (mm_new h 5 (.inr (0, [.null, .null, .int 0, .null, .null]))) Q) : mm_Go E d m ((pc, .new idx, ex) :: is) L S h Q := gc_new0 h0 hg
theorem gc_n10 {E : mmE} {d m pc idx : Nat} {is : List mmI} {L S : List Value} {h : mmH} {Q : Option Value → mmH → Prop} {ex : List Nat} (h0 : mm_k0 ex = 10) (hg : mm_Go E d m is L (.ref h.1 :: S) (mm_new h 18 (.inr (10, [.int 0, .null, .int 0, .int 0, .int 0, .null, .null, .null, .null, .int 0, .int 0, .int 0, .null, .null, .null, .null, .int 0, .null]))) Q) : mm_Go E d m ((pc, .new idx, ex) :: is) L S h Q := gc_new0 h0 hg
section S
variable {E : mmE} {d : Nat} {h : mmH} {Q : Option Value → mmH → Prop}
theorem sp_cinit (hk : hOk E h) (hq : ∀ h', h'.2.2 h.1 = some (.inr (0, [.ref (h.1 + 1), .ref (h.1 + 2), .int (nI 0), .null, .null])) → h'.2.2 (h.1 + 1) = some (.inl (0, 2000, .inl fun _ => 0)) → h'.2.2 (h.1 + 2) = some (.inl (4, 16, .inr (.inr (.inr (.inr fun _ => none))))) → hOk E h' → h'.1 = h.1 + 3 → h'.2.1 = h.2.1 + 2021 → Q none h') : mm_Go E d 0 (mm_blk 0 0) [.ref h.1] [] (mm_new h 5 (.inr (0, [.null, .null, .int 0, .null, .null]))) Q := by
  have k1 := hOk_new (E := E) (n := 5) (c := .inr (0, [.null, .null, .int 0, .null, .null])) hk
  have c1 : (mm_new h 5 (.inr (0, [.null, .null, .int 0, .null, .null]))).2.2 h.1 = some (.inr (0, [.null, .null, .int 0, .null, .null])) := hn_at
  have s1 : (mm_new h 5 (.inr (0, [.null, .null, .int 0, .null, .null]))).1 = h.1 + 1 := rfl
  have t1 : (mm_new h 5 (.inr (0, [.null, .null, .int 0, .null, .null]))).2.1 = h.2.1 + 5 := rfl
  generalize mm_new h 5 (.inr (0, [.null, .null, .int 0, .null, .null])) = h1 at k1 c1 s1 t1 ⊢
  refine go_nx rfl ?_
  refine go_nx rfl ?_
  refine go_nx rfl ?_
  refine gi_sip (Nat.le_of_ble_eq_true rfl) ?_
  refine gc_newT (t := 0) (by decide) rfl ?_
  rw [s1]
  have c2 : (mm_new h1 2000 (.inl (0, 2000, .inl fun _ => 0))).2.2 h.1 = some (.inr (0, [.null, .null, .int 0, .null, .null])) := by rw [hn_ne (by omega)]; exact c1
  refine gc_put (fs' := [.ref (h.1 + 1), .null, .int 0, .null, .null]) c2 rfl (Nat.le_of_ble_eq_true rfl) rfl rfl ?_
  have k2 : hOk E (mm_set (mm_new h1 2000 (.inl (0, 2000, .inl fun _ => 0))) h.1 (.inr (0, [.ref (h.1 + 1), .null, .int 0, .null, .null]))) := hOk_set2 (hOk_new k1) c2
  have c3 : (mm_set (mm_new h1 2000 (.inl (0, 2000, .inl fun _ => 0))) h.1 (.inr (0, [.ref (h.1 + 1), .null, .int 0, .null, .null]))).2.2 h.1 = some (.inr (0, [.ref (h.1 + 1), .null, .int 0, .null, .null])) := hs_at
  have a3 : (mm_set (mm_new h1 2000 (.inl (0, 2000, .inl fun _ => 0))) h.1 (.inr (0, [.ref (h.1 + 1), .null, .int 0, .null, .null]))).2.2 (h.1 + 1) = some (.inl (0, 2000, .inl fun _ => 0)) := by
    rw [hs_ne (by omega), ← s1]
    exact hn_at
  have s3 : (mm_set (mm_new h1 2000 (.inl (0, 2000, .inl fun _ => 0))) h.1 (.inr (0, [.ref (h.1 + 1), .null, .int 0, .null, .null]))).1 = h.1 + 2 := by show h1.1 + 1 = _; omega
  have t3 : (mm_set (mm_new h1 2000 (.inl (0, 2000, .inl fun _ => 0))) h.1 (.inr (0, [.ref (h.1 + 1), .null, .int 0, .null, .null]))).2.1 = h.2.1 + 2005 := by show h1.2.1 + 2000 = _; omega
  generalize mm_set (mm_new h1 2000 (.inl (0, 2000, .inl fun _ => 0))) h.1 (.inr (0, [.ref (h.1 + 1), .null, .int 0, .null, .null])) = h3 at k2 c3 a3 s3 t3 ⊢
  refine go_nx rfl ?_
  refine gi_bip (Nat.le_of_ble_eq_true rfl) ?_
  refine gc_newA (t := 4) (by decide) rfl ?_
  rw [s3]
  have c4 : (mm_new h3 16 (.inl (4, 16, .inr (.inr (.inr (.inr fun _ => none)))))).2.2 h.1 = some (.inr (0, [.ref (h.1 + 1), .null, .int 0, .null, .null])) := by rw [hn_ne (by omega)]; exact c3
  refine gc_put (fs' := [.ref (h.1 + 1), .ref (h.1 + 2), .int 0, .null, .null]) c4 rfl (Nat.le_of_ble_eq_true rfl) rfl rfl ?_
  repeat (first | refine gc_n3 rfl ?_ | refine gc_n6 rfl ?_ | refine gc_n7 rfl ?_ | refine gc_n8 rfl ?_ | refine gc_n9 rfl ?_ | refine gc_n2 rfl ?_ | refine gc_n5 rfl ?_ | refine gc_n1 rfl ?_ | refine gi_con ?_ | refine gi_bip (Nat.le_of_ble_eq_true rfl) ?_ | refine gi_sip (Nat.le_of_ble_eq_true rfl) ?_ | refine gi_ldc ?_ | refine gi_add ?_ | refine gi_inc rfl ?_ | refine gi_sub (by omega) ?_ | refine gi_mul ?_ | refine go_nx rfl ?_)
  refine gc_put (fs' := [.ref (h.1 + 1), .ref (h.1 + 2), .int (nI 0), .null, .null]) hs_at rfl (Nat.le_of_ble_eq_true rfl) rfl rfl ?_
  rw [hs_set]
  repeat (first | refine gc_n3 rfl ?_ | refine gc_n6 rfl ?_ | refine gc_n7 rfl ?_ | refine gc_n8 rfl ?_ | refine gc_n9 rfl ?_ | refine gc_n2 rfl ?_ | refine gc_n5 rfl ?_ | refine gc_n1 rfl ?_ | refine gi_con ?_ | refine gi_bip (Nat.le_of_ble_eq_true rfl) ?_ | refine gi_sip (Nat.le_of_ble_eq_true rfl) ?_ | refine gi_ldc ?_ | refine gi_add ?_ | refine gi_inc rfl ?_ | refine gi_sub (by omega) ?_ | refine gi_mul ?_ | refine go_nx rfl ?_)
  refine gc_put (fs' := [.ref (h.1 + 1), .ref (h.1 + 2), .int (nI 0), .null, .null]) hs_at rfl (Nat.le_of_ble_eq_true rfl) rfl rfl ?_
  rw [hs_set]
  repeat (first | refine gc_n3 rfl ?_ | refine gc_n6 rfl ?_ | refine gc_n7 rfl ?_ | refine gc_n8 rfl ?_ | refine gc_n9 rfl ?_ | refine gc_n2 rfl ?_ | refine gc_n5 rfl ?_ | refine gc_n1 rfl ?_ | refine gi_con ?_ | refine gi_bip (Nat.le_of_ble_eq_true rfl) ?_ | refine gi_sip (Nat.le_of_ble_eq_true rfl) ?_ | refine gi_ldc ?_ | refine gi_add ?_ | refine gi_inc rfl ?_ | refine gi_sub (by omega) ?_ | refine gi_mul ?_ | refine go_nx rfl ?_)
  refine gc_put (fs' := [.ref (h.1 + 1), .ref (h.1 + 2), .int (nI 0), .null, .null]) hs_at rfl (Nat.le_of_ble_eq_true rfl) rfl rfl ?_
  rw [hs_set]
  refine go_rt rfl ?_
  refine hq _ hs_at ?_ ?_ (hOk_set2 (hOk_new k2) c4) ?_ ?_
  · rw [hs_ne (by omega), hn_ne (by omega)]
    exact a3
  · rw [hs_ne (by omega), ← s3]
    exact hn_at
  · show h3.1 + 1 = _
    omega
  · show h3.2.1 + 16 = _
    omega
/-- while the reference is made -/
def mB (E : mmE) (h0 : mmH) (om a : Nat) (fs : List Value) (arrs : List (Nat × Nat × Nat)) (sl : Nat) (H : mmH) : Prop := hOk E H ∧ H.2.2 om = some (.inr (10, fs)) ∧ (∀ x ∈ arrs, H.2.2 x.1 = some (.inl (x.2.1, x.2.2, .inl fun _ => 0)) ∧ x.1 < a ∧ x.1 ≠ om) ∧ (∀ b, b < om → H.2.2 b = h0.2.2 b) ∧ H.1 = a ∧ H.2.1 = sl ∧ om < a
theorem mB_c {h0 H : mmH} {om a sl n : Nat} {fs : List Value} {arrs : List (Nat × Nat × Nat)} {c : mmC} (hm : mB E h0 om a fs arrs sl H) : (mm_new H n c).2.2 om = some (.inr (10, fs)) := by
  obtain ⟨m1, m2, m3, m4, m5, m6, m7⟩ := hm
  rw [hn_ne (by omega)]
  exact m2
theorem mB_step {h0 H : mmH} {om a sl : Nat} {fs fs' : List Value} {arrs : List (Nat × Nat × Nat)} (t n : Nat) (hm : mB E h0 om a fs arrs sl H) : mB E h0 om (a + 1) fs' ((a, t, n) :: arrs) (sl + n) (mm_set (mm_new H n (.inl (t, n, .inl fun _ => 0))) om (.inr (10, fs'))) := by
  have hc := mB_c (n := n) (c := .inl (t, n, .inl fun _ => 0)) hm
  obtain ⟨m1, m2, m3, m4, m5, m6, m7⟩ := hm
  refine ⟨hOk_set2 (hOk_new m1) hc, hs_at, fun x hx => ?_, fun b hb => ?_, ?_, ?_, by omega⟩
  · rcases List.mem_cons.mp hx with q | q
    · subst q
      refine ⟨?_, Nat.lt_succ_self _, by show a ≠ om; omega⟩
      show (mm_set _ om _).2.2 a = _
      rw [hs_ne (by omega), ← m5]
      exact hn_at
    · obtain ⟨e1, e2, e3⟩ := m3 x q
      refine ⟨?_, by omega, e3⟩
      rw [hs_ne e3, hn_ne (by omega)]
      exact e1
  · rw [hs_ne (by omega), hn_ne (by omega)]
    exact m4 b hb
  · show H.1 + 1 = _
    omega
  · show H.2.1 + n = _
    omega
def mIdx (k : Nat) : Nat := if k = 1 then 1 else if k = 5 then 2 else if k = 6 then 3 else if k = 7 then 4 else if k = 8 then 5 else if k = 12 then 6 else if k = 13 then 7 else if k = 14 then 8 else if k = 15 then 9 else 10
theorem mD_idx (om : Nat) : mD om (fun k => om + mIdx k) := by
  have h1 : ∀ k ∈ mKs, 1 ≤ mIdx k := by decide
  have h2 : ∀ k ∈ mKs, ∀ j ∈ mKs, mIdx k = mIdx j → k = j := by decide
  exact ⟨fun k hk q => by have := h1 k hk; have q : om + mIdx k = om := q; omega, fun k hk j hj q => h2 k hk j hj (by have q : om + mIdx k = om + mIdx j := q; omega)⟩
theorem sl_le {H x a0 a1 a2 a3 a4 a5 a6 a7 a8 a9 a10 : Nat} (h : H = x + a0 + a1 + a2 + a3 + a4 + a5 + a6 + a7 + a8 + a9 + a10) (ha : a0 + a1 + a2 + a3 + a4 + a5 + a6 + a7 + a8 + a9 + a10 ≤ 55000) : H ≤ x + 55000 := by omega
theorem mB_fs (om : Nat) : mFl (fun _ => 0) (fun k => om + mIdx k) = [.int 0, .ref (om + 1), .int 0, .int 0, .int 0, .ref (om + 2), .ref (om + 3), .ref (om + 4), .ref (om + 5), .int 0, .int 0, .int 0, .ref (om + 6), .ref (om + 7), .ref (om + 8), .ref (om + 9), .int 0, .ref (om + 10)] := rfl
theorem mB_mem {om : Nat} {H : mmH} (hx : ∀ x ∈ [(om + 10, 1, 8000), (om + 9, 1, 24000), (om + 8, 1, 3), (om + 7, 1, 120), (om + 6, 1, 120), (om + 5, 1, 8), (om + 4, 1, 8), (om + 3, 1, 8), (om + 2, 2, 8), (om + 1, 0, 22100)], H.2.2 x.1 = some (.inl (x.2.1, x.2.2, .inl fun _ => 0))) : ∀ k ∈ mKs, H.2.2 (om + mIdx k) = some (.inl (mTag k, mLen k, .inl fun _ => 0)) := by
  intro k hk
  simp only [mKs, List.mem_cons, List.not_mem_nil, or_false] at hk
  rcases hk with q | q | q | q | q | q | q | q | q | q <;> subst q
  · rw [show mTag 1 = 0 from by decide, show mLen 1 = 22100 from by decide, show mIdx 1 = 1 from by decide]
    exact hx (om + 1, 0, 22100) (List.mem_cons_of_mem _ (List.mem_cons_of_mem _ (List.mem_cons_of_mem _ (List.mem_cons_of_mem _ (List.mem_cons_of_mem _ (List.mem_cons_of_mem _ (List.mem_cons_of_mem _ (List.mem_cons_of_mem _ (List.mem_cons_of_mem _ (List.mem_cons_self))))))))))
  · rw [show mTag 5 = 2 from by decide, show mLen 5 = 8 from by decide, show mIdx 5 = 2 from by decide]
    exact hx (om + 2, 2, 8) (List.mem_cons_of_mem _ (List.mem_cons_of_mem _ (List.mem_cons_of_mem _ (List.mem_cons_of_mem _ (List.mem_cons_of_mem _ (List.mem_cons_of_mem _ (List.mem_cons_of_mem _ (List.mem_cons_of_mem _ (List.mem_cons_self)))))))))
  · rw [show mTag 6 = 1 from by decide, show mLen 6 = 8 from by decide, show mIdx 6 = 3 from by decide]
    exact hx (om + 3, 1, 8) (List.mem_cons_of_mem _ (List.mem_cons_of_mem _ (List.mem_cons_of_mem _ (List.mem_cons_of_mem _ (List.mem_cons_of_mem _ (List.mem_cons_of_mem _ (List.mem_cons_of_mem _ (List.mem_cons_self))))))))
  · rw [show mTag 7 = 1 from by decide, show mLen 7 = 8 from by decide, show mIdx 7 = 4 from by decide]
    exact hx (om + 4, 1, 8) (List.mem_cons_of_mem _ (List.mem_cons_of_mem _ (List.mem_cons_of_mem _ (List.mem_cons_of_mem _ (List.mem_cons_of_mem _ (List.mem_cons_of_mem _ (List.mem_cons_self)))))))
  · rw [show mTag 8 = 1 from by decide, show mLen 8 = 8 from by decide, show mIdx 8 = 5 from by decide]
    exact hx (om + 5, 1, 8) (List.mem_cons_of_mem _ (List.mem_cons_of_mem _ (List.mem_cons_of_mem _ (List.mem_cons_of_mem _ (List.mem_cons_of_mem _ (List.mem_cons_self))))))
  · rw [show mTag 12 = 1 from by decide, show mLen 12 = 120 from by decide, show mIdx 12 = 6 from by decide]
    exact hx (om + 6, 1, 120) (List.mem_cons_of_mem _ (List.mem_cons_of_mem _ (List.mem_cons_of_mem _ (List.mem_cons_of_mem _ (List.mem_cons_self)))))
  · rw [show mTag 13 = 1 from by decide, show mLen 13 = 120 from by decide, show mIdx 13 = 7 from by decide]
    exact hx (om + 7, 1, 120) (List.mem_cons_of_mem _ (List.mem_cons_of_mem _ (List.mem_cons_of_mem _ (List.mem_cons_self))))
  · rw [show mTag 14 = 1 from by decide, show mLen 14 = 3 from by decide, show mIdx 14 = 8 from by decide]
    exact hx (om + 8, 1, 3) (List.mem_cons_of_mem _ (List.mem_cons_of_mem _ (List.mem_cons_self)))
  · rw [show mTag 15 = 1 from by decide, show mLen 15 = 24000 from by decide, show mIdx 15 = 9 from by decide]
    exact hx (om + 9, 1, 24000) (List.mem_cons_of_mem _ (List.mem_cons_self))
  · rw [show mTag 17 = 1 from by decide, show mLen 17 = 8000 from by decide, show mIdx 17 = 10 from by decide]
    exact hx (om + 10, 1, 8000) (List.mem_cons_self)
theorem sp_mnew (hk : hOk E h) (hq : ∀ h', mAt h' h.1 (fun k => h.1 + mIdx k) (fun _ => 0) (fun _ _ => 0) → hOk E h' → (∀ b, b < h.1 → h'.2.2 b = h.2.2 b) → h'.1 = h.1 + 11 → h'.2.1 ≤ h.2.1 + 55000 → Q none h') : mm_Go E d 107 (mm_blk 107 0) [.ref h.1] [] (mm_new h 18 (.inr (10, [.int 0, .null, .int 0, .int 0, .int 0, .null, .null, .null, .null, .int 0, .int 0, .int 0, .null, .null, .null, .null, .int 0, .null]))) Q := by
  have m0 : mB E h h.1 (h.1 + 1) [.int 0, .null, .int 0, .int 0, .int 0, .null, .null, .null, .null, .int 0, .int 0, .int 0, .null, .null, .null, .null, .int 0, .null] [] (h.2.1 + 18) (mm_new h 18 (.inr (10, [.int 0, .null, .int 0, .int 0, .int 0, .null, .null, .null, .null, .int 0, .int 0, .int 0, .null, .null, .null, .null, .int 0, .null]))) := ⟨hOk_new hk, hn_at, fun x hx => absurd hx List.not_mem_nil, fun b hb => hn_ne (by omega), rfl, rfl, Nat.lt_succ_self _⟩
  generalize mm_new h 18 (.inr (10, [.int 0, .null, .int 0, .int 0, .int 0, .null, .null, .null, .null, .int 0, .int 0, .int 0, .null, .null, .null, .null, .int 0, .null])) = H0 at m0 ⊢
  refine go_nx rfl ?_
  refine go_nx rfl ?_
  refine go_nx rfl ?_
  refine gi_sip (Nat.le_of_ble_eq_true rfl) ?_
  refine gc_newT (n := 22100) (t := 0) (by decide) rfl ?_
  rw [m0.2.2.2.2.1]
  refine gc_put (fs' := [.int 0, .ref (h.1 + 1), .int 0, .int 0, .int 0, .null, .null, .null, .null, .int 0, .int 0, .int 0, .null, .null, .null, .null, .int 0, .null]) (mB_c m0) rfl (Nat.le_of_ble_eq_true rfl) rfl rfl ?_
  have m1 := mB_step (fs' := [.int 0, .ref (h.1 + 1), .int 0, .int 0, .int 0, .null, .null, .null, .null, .int 0, .int 0, .int 0, .null, .null, .null, .null, .int 0, .null]) 0 22100 m0
  generalize mm_set (mm_new H0 22100 (.inl (0, 22100, .inl fun _ => 0))) h.1 (.inr (10, [.int 0, .ref (h.1 + 1), .int 0, .int 0, .int 0, .null, .null, .null, .null, .int 0, .int 0, .int 0, .null, .null, .null, .null, .int 0, .null])) = H1 at m1 ⊢
  refine go_nx rfl ?_
  refine gi_bip (Nat.le_of_ble_eq_true rfl) ?_
  refine gc_newT (n := 8) (t := 2) (by decide) rfl ?_
  rw [m1.2.2.2.2.1]
  refine gc_put (fs' := [.int 0, .ref (h.1 + 1), .int 0, .int 0, .int 0, .ref (h.1 + 2), .null, .null, .null, .int 0, .int 0, .int 0, .null, .null, .null, .null, .int 0, .null]) (mB_c m1) rfl (Nat.le_of_ble_eq_true rfl) rfl rfl ?_
  have m2 := mB_step (fs' := [.int 0, .ref (h.1 + 1), .int 0, .int 0, .int 0, .ref (h.1 + 2), .null, .null, .null, .int 0, .int 0, .int 0, .null, .null, .null, .null, .int 0, .null]) 2 8 m1
  generalize mm_set (mm_new H1 8 (.inl (2, 8, .inl fun _ => 0))) h.1 (.inr (10, [.int 0, .ref (h.1 + 1), .int 0, .int 0, .int 0, .ref (h.1 + 2), .null, .null, .null, .int 0, .int 0, .int 0, .null, .null, .null, .null, .int 0, .null])) = H2 at m2 ⊢
  refine go_nx rfl ?_
  refine gi_bip (Nat.le_of_ble_eq_true rfl) ?_
  refine gc_newT (n := 8) (t := 1) (by decide) rfl ?_
  rw [m2.2.2.2.2.1]
  refine gc_put (fs' := [.int 0, .ref (h.1 + 1), .int 0, .int 0, .int 0, .ref (h.1 + 2), .ref (h.1 + 3), .null, .null, .int 0, .int 0, .int 0, .null, .null, .null, .null, .int 0, .null]) (mB_c m2) rfl (Nat.le_of_ble_eq_true rfl) rfl rfl ?_
  have m3 := mB_step (fs' := [.int 0, .ref (h.1 + 1), .int 0, .int 0, .int 0, .ref (h.1 + 2), .ref (h.1 + 3), .null, .null, .int 0, .int 0, .int 0, .null, .null, .null, .null, .int 0, .null]) 1 8 m2
  generalize mm_set (mm_new H2 8 (.inl (1, 8, .inl fun _ => 0))) h.1 (.inr (10, [.int 0, .ref (h.1 + 1), .int 0, .int 0, .int 0, .ref (h.1 + 2), .ref (h.1 + 3), .null, .null, .int 0, .int 0, .int 0, .null, .null, .null, .null, .int 0, .null])) = H3 at m3 ⊢
  refine go_nx rfl ?_
  refine gi_bip (Nat.le_of_ble_eq_true rfl) ?_
  refine gc_newT (n := 8) (t := 1) (by decide) rfl ?_
  rw [m3.2.2.2.2.1]
  refine gc_put (fs' := [.int 0, .ref (h.1 + 1), .int 0, .int 0, .int 0, .ref (h.1 + 2), .ref (h.1 + 3), .ref (h.1 + 4), .null, .int 0, .int 0, .int 0, .null, .null, .null, .null, .int 0, .null]) (mB_c m3) rfl (Nat.le_of_ble_eq_true rfl) rfl rfl ?_
  have m4 := mB_step (fs' := [.int 0, .ref (h.1 + 1), .int 0, .int 0, .int 0, .ref (h.1 + 2), .ref (h.1 + 3), .ref (h.1 + 4), .null, .int 0, .int 0, .int 0, .null, .null, .null, .null, .int 0, .null]) 1 8 m3
  generalize mm_set (mm_new H3 8 (.inl (1, 8, .inl fun _ => 0))) h.1 (.inr (10, [.int 0, .ref (h.1 + 1), .int 0, .int 0, .int 0, .ref (h.1 + 2), .ref (h.1 + 3), .ref (h.1 + 4), .null, .int 0, .int 0, .int 0, .null, .null, .null, .null, .int 0, .null])) = H4 at m4 ⊢
  refine go_nx rfl ?_
  refine gi_bip (Nat.le_of_ble_eq_true rfl) ?_
  refine gc_newT (n := 8) (t := 1) (by decide) rfl ?_
  rw [m4.2.2.2.2.1]
  refine gc_put (fs' := [.int 0, .ref (h.1 + 1), .int 0, .int 0, .int 0, .ref (h.1 + 2), .ref (h.1 + 3), .ref (h.1 + 4), .ref (h.1 + 5), .int 0, .int 0, .int 0, .null, .null, .null, .null, .int 0, .null]) (mB_c m4) rfl (Nat.le_of_ble_eq_true rfl) rfl rfl ?_
  have m5 := mB_step (fs' := [.int 0, .ref (h.1 + 1), .int 0, .int 0, .int 0, .ref (h.1 + 2), .ref (h.1 + 3), .ref (h.1 + 4), .ref (h.1 + 5), .int 0, .int 0, .int 0, .null, .null, .null, .null, .int 0, .null]) 1 8 m4
  generalize mm_set (mm_new H4 8 (.inl (1, 8, .inl fun _ => 0))) h.1 (.inr (10, [.int 0, .ref (h.1 + 1), .int 0, .int 0, .int 0, .ref (h.1 + 2), .ref (h.1 + 3), .ref (h.1 + 4), .ref (h.1 + 5), .int 0, .int 0, .int 0, .null, .null, .null, .null, .int 0, .null])) = H5 at m5 ⊢
  refine go_nx rfl ?_
  refine gi_bip (Nat.le_of_ble_eq_true rfl) ?_
  refine gc_newT (n := 120) (t := 1) (by decide) rfl ?_
  rw [m5.2.2.2.2.1]
  refine gc_put (fs' := [.int 0, .ref (h.1 + 1), .int 0, .int 0, .int 0, .ref (h.1 + 2), .ref (h.1 + 3), .ref (h.1 + 4), .ref (h.1 + 5), .int 0, .int 0, .int 0, .ref (h.1 + 6), .null, .null, .null, .int 0, .null]) (mB_c m5) rfl (Nat.le_of_ble_eq_true rfl) rfl rfl ?_
  have m6 := mB_step (fs' := [.int 0, .ref (h.1 + 1), .int 0, .int 0, .int 0, .ref (h.1 + 2), .ref (h.1 + 3), .ref (h.1 + 4), .ref (h.1 + 5), .int 0, .int 0, .int 0, .ref (h.1 + 6), .null, .null, .null, .int 0, .null]) 1 120 m5
  generalize mm_set (mm_new H5 120 (.inl (1, 120, .inl fun _ => 0))) h.1 (.inr (10, [.int 0, .ref (h.1 + 1), .int 0, .int 0, .int 0, .ref (h.1 + 2), .ref (h.1 + 3), .ref (h.1 + 4), .ref (h.1 + 5), .int 0, .int 0, .int 0, .ref (h.1 + 6), .null, .null, .null, .int 0, .null])) = H6 at m6 ⊢
  refine go_nx rfl ?_
  refine gi_bip (Nat.le_of_ble_eq_true rfl) ?_
  refine gc_newT (n := 120) (t := 1) (by decide) rfl ?_
  rw [m6.2.2.2.2.1]
  refine gc_put (fs' := [.int 0, .ref (h.1 + 1), .int 0, .int 0, .int 0, .ref (h.1 + 2), .ref (h.1 + 3), .ref (h.1 + 4), .ref (h.1 + 5), .int 0, .int 0, .int 0, .ref (h.1 + 6), .ref (h.1 + 7), .null, .null, .int 0, .null]) (mB_c m6) rfl (Nat.le_of_ble_eq_true rfl) rfl rfl ?_
  have m7 := mB_step (fs' := [.int 0, .ref (h.1 + 1), .int 0, .int 0, .int 0, .ref (h.1 + 2), .ref (h.1 + 3), .ref (h.1 + 4), .ref (h.1 + 5), .int 0, .int 0, .int 0, .ref (h.1 + 6), .ref (h.1 + 7), .null, .null, .int 0, .null]) 1 120 m6
  generalize mm_set (mm_new H6 120 (.inl (1, 120, .inl fun _ => 0))) h.1 (.inr (10, [.int 0, .ref (h.1 + 1), .int 0, .int 0, .int 0, .ref (h.1 + 2), .ref (h.1 + 3), .ref (h.1 + 4), .ref (h.1 + 5), .int 0, .int 0, .int 0, .ref (h.1 + 6), .ref (h.1 + 7), .null, .null, .int 0, .null])) = H7 at m7 ⊢
  refine go_nx rfl ?_
  refine gi_con ?_
  refine gc_newT (n := 3) (t := 1) (by decide) rfl ?_
  rw [m7.2.2.2.2.1]
  refine gc_put (fs' := [.int 0, .ref (h.1 + 1), .int 0, .int 0, .int 0, .ref (h.1 + 2), .ref (h.1 + 3), .ref (h.1 + 4), .ref (h.1 + 5), .int 0, .int 0, .int 0, .ref (h.1 + 6), .ref (h.1 + 7), .ref (h.1 + 8), .null, .int 0, .null]) (mB_c m7) rfl (Nat.le_of_ble_eq_true rfl) rfl rfl ?_
  have m8 := mB_step (fs' := [.int 0, .ref (h.1 + 1), .int 0, .int 0, .int 0, .ref (h.1 + 2), .ref (h.1 + 3), .ref (h.1 + 4), .ref (h.1 + 5), .int 0, .int 0, .int 0, .ref (h.1 + 6), .ref (h.1 + 7), .ref (h.1 + 8), .null, .int 0, .null]) 1 3 m7
  generalize mm_set (mm_new H7 3 (.inl (1, 3, .inl fun _ => 0))) h.1 (.inr (10, [.int 0, .ref (h.1 + 1), .int 0, .int 0, .int 0, .ref (h.1 + 2), .ref (h.1 + 3), .ref (h.1 + 4), .ref (h.1 + 5), .int 0, .int 0, .int 0, .ref (h.1 + 6), .ref (h.1 + 7), .ref (h.1 + 8), .null, .int 0, .null])) = H8 at m8 ⊢
  refine go_nx rfl ?_
  refine gi_sip (Nat.le_of_ble_eq_true rfl) ?_
  refine gc_newT (n := 24000) (t := 1) (by decide) rfl ?_
  rw [m8.2.2.2.2.1]
  refine gc_put (fs' := [.int 0, .ref (h.1 + 1), .int 0, .int 0, .int 0, .ref (h.1 + 2), .ref (h.1 + 3), .ref (h.1 + 4), .ref (h.1 + 5), .int 0, .int 0, .int 0, .ref (h.1 + 6), .ref (h.1 + 7), .ref (h.1 + 8), .ref (h.1 + 9), .int 0, .null]) (mB_c m8) rfl (Nat.le_of_ble_eq_true rfl) rfl rfl ?_
  have m9 := mB_step (fs' := [.int 0, .ref (h.1 + 1), .int 0, .int 0, .int 0, .ref (h.1 + 2), .ref (h.1 + 3), .ref (h.1 + 4), .ref (h.1 + 5), .int 0, .int 0, .int 0, .ref (h.1 + 6), .ref (h.1 + 7), .ref (h.1 + 8), .ref (h.1 + 9), .int 0, .null]) 1 24000 m8
  generalize mm_set (mm_new H8 24000 (.inl (1, 24000, .inl fun _ => 0))) h.1 (.inr (10, [.int 0, .ref (h.1 + 1), .int 0, .int 0, .int 0, .ref (h.1 + 2), .ref (h.1 + 3), .ref (h.1 + 4), .ref (h.1 + 5), .int 0, .int 0, .int 0, .ref (h.1 + 6), .ref (h.1 + 7), .ref (h.1 + 8), .ref (h.1 + 9), .int 0, .null])) = H9 at m9 ⊢
  refine go_nx rfl ?_
  refine gi_sip (Nat.le_of_ble_eq_true rfl) ?_
  refine gc_newT (n := 8000) (t := 1) (by decide) rfl ?_
  rw [m9.2.2.2.2.1]
  refine gc_put (fs' := [.int 0, .ref (h.1 + 1), .int 0, .int 0, .int 0, .ref (h.1 + 2), .ref (h.1 + 3), .ref (h.1 + 4), .ref (h.1 + 5), .int 0, .int 0, .int 0, .ref (h.1 + 6), .ref (h.1 + 7), .ref (h.1 + 8), .ref (h.1 + 9), .int 0, .ref (h.1 + 10)]) (mB_c m9) rfl (Nat.le_of_ble_eq_true rfl) rfl rfl ?_
  have m10 := mB_step (fs' := [.int 0, .ref (h.1 + 1), .int 0, .int 0, .int 0, .ref (h.1 + 2), .ref (h.1 + 3), .ref (h.1 + 4), .ref (h.1 + 5), .int 0, .int 0, .int 0, .ref (h.1 + 6), .ref (h.1 + 7), .ref (h.1 + 8), .ref (h.1 + 9), .int 0, .ref (h.1 + 10)]) 1 8000 m9
  generalize mm_set (mm_new H9 8000 (.inl (1, 8000, .inl fun _ => 0))) h.1 (.inr (10, [.int 0, .ref (h.1 + 1), .int 0, .int 0, .int 0, .ref (h.1 + 2), .ref (h.1 + 3), .ref (h.1 + 4), .ref (h.1 + 5), .int 0, .int 0, .int 0, .ref (h.1 + 6), .ref (h.1 + 7), .ref (h.1 + 8), .ref (h.1 + 9), .int 0, .ref (h.1 + 10)])) = H10 at m10 ⊢
  refine go_rt rfl ?_
  obtain ⟨n1, n2, n3, n4, n5, n6, n7⟩ := m10
  have hsl : H10.2.1 ≤ h.2.1 + 55000 := sl_le n6 (Nat.le_of_ble_eq_true rfl)
  refine hq H10 ⟨by rw [mB_fs]; exact n2, mB_mem (fun x hx => (n3 x hx).1)⟩ n1 n4 (by omega) hsl
/-- the reference's state at the start -/
theorem mInv_0 : mInv (fun _ => 0) (fun _ => 0) (fun _ _ => 0) (0, fun _ => 0) none none (fun _ => none) := by
  refine ⟨fun j _ => (show (0 : Int32) = sb_b 0 by decide), fun j => (show 0 < 256 by decide), ⟨fun _ => [], fun s hs => ⟨Nat.zero_le _, rfl, fun k hk => absurd hk (Nat.not_lt_zero _)⟩⟩, ⟨Nat.zero_le _, rfl, fun j hj => absurd hj (Nat.not_lt_zero _)⟩, ⟨rfl, fun f hf => by cases hf⟩, ⟨rfl, fun f hf => by cases hf⟩, fun i hi => ⟨rfl, fun y hy => by cases hy⟩⟩
end S
