set_option maxRecDepth 100000 in
theorem st_by : mm_by 173 = code := rfl
set_option maxRecDepth 100000 in
theorem st_re : mm_re 173 = ret := rfl
set_option maxRecDepth 100000 in
theorem st_own : mm_own 173 = R_law := rfl
set_option maxRecDepth 100000 in
theorem st_ml : mm_maxL 173 = 4 := rfl
set_option maxRecDepth 100000 in
theorem st_nm : (mm_y 173).name ≠ "<init>" := by decide +kernel
theorem st_pc : mm_pcH (mm_blk 173 0) = 0 := by decide +kernel
set_option maxHeartbeats 4000000 in
/-- the law's walk out of the small machine's run -/
theorem st_start (hp : law_pure) {p : Program} {e : Env} {s : State} {m : MethodId} {below : List Frame} {meth : Method} {c : Code} (l : Launch) {b L : Nat} {xs : Nat → Int32} (hL : L ≤ 3072) (C0 : lw_At p s m meth c b L xs) : W p l e room_1 s m #[Value.ref b] below meth c s.heap [] 0 0 (lw_Z below #[Value.ref b] s) (entryFrame m ([Value.ref b] : List Value).toArray 4) := by
  obtain ⟨hx, hb, hr, hml, hown, hts, hX, hbl, hlocks, hgv⟩ := C0
  have hs : ∀ c ∈ st_given, c.before #[Value.ref b] s = true := flat_of_before _ hgv
  have hts' : ∀ w ∈ mm_tbl, w.before #[Value.ref b] s = true := fun w hw => hts w (List.mem_filter.mp hw).1
  have hA : ∀ a : Nat, a < s.heap.size → ¬ (fun q : Nat => s.heap.size ≤ q) a := fun a h => Nat.not_le.mpr h
  obtain ⟨t0, ht0, hT0⟩ := va_Tof (tm := .static "java/util/ArrayList" "DEFAULTCAPACITY_EMPTY_ELEMENTDATA" "[Ljava/lang/Object;") (ty := .object "java/lang/Object") (N := 0) (f := fun _ => .int 0) (A := fun q : Nat => s.heap.size ≤ q) (by decide) (hs _ st_g0) (va_eqt (hs _ st_g1)) (fun j hj => absurd hj (Nat.not_lt_zero _)) hA
  obtain ⟨adK, adV, hStr⟩ := st_strs (A := fun q : Nat => s.heap.size ≤ q) hs hA
  obtain ⟨mi, hMi⟩ := va_Mi.of (hs _ st_g4)
  obtain ⟨w2, hw2, hZ2⟩ : ∃ w : Value, (w = .null ∨ ∃ a, w = .ref a) ∧ va_Z (mm_gs 2).1 (mm_gs 2).2.1 (mm_gs 2).2.2 w (fun q : Nat => s.heap.size ≤ q) s s.heap := by
    rcases va_Zqof (hts _ (st_l0 2 (by decide))) (hts _ (st_l1 2 (by decide))) (hs _ st_g3) hA with h | ⟨t, h⟩
    · exact ⟨.null, Or.inl rfl, h⟩
    · exact ⟨.ref t, Or.inr ⟨t, rfl⟩, h⟩
  have hTb : va_T .int b L (fun j => .int (xs j)) (fun q : Nat => s.heap.size ≤ q) s s.heap := by
    obtain ⟨scr, q1, q2, q3, q4, q5⟩ := hX
    exact ⟨scr, q1, q2, q3, Nat.le_of_eq q4.symm, by rw [q4], q5, hA b hbl⟩
  have hT0l : t0 < s.heap.size := by
    obtain ⟨cell, q1, -⟩ := hT0
    exact (Array.getElem?_eq_some_iff.mp q1).1
  obtain ⟨dC, dI, hdC⟩ : ∃ (dC : Nat → ClassId) (dI : Nat → Nat → Nat), ∀ (ci : Nat) (q : vw_C), mm_cls[ci]? = some q → u_Kn s q.1 q.2.1 q.2.2 (dC ci) (dI ci) := by
    have h0 : ∀ ci : Nat, ∃ x : ClassId × (Nat → Nat), ∀ q, mm_cls[ci]? = some q → u_Kn s q.1 q.2.1 q.2.2 x.1 x.2 := by
      intro ci
      cases hq : mm_cls[ci]? with
      | none => exact ⟨(0, fun _ => 0), fun q h => by cases h⟩
      | some q =>
        obtain ⟨C, T, N⟩ := q
        have hci := mm_cls_lt hq
        have hi := hts _ (st_l7 ci hci)
        have hnm : mm_cnm (ci + 1) = C := by
          unfold mm_cnm
          rw [if_neg (by omega), Nat.add_sub_cancel, hq]
          rfl
        rw [hnm] at hi
        obtain ⟨cC, iS, hk⟩ := u_known (C := C) (T := T) (N := N) hts' (mm_uws hq) hi
        exact ⟨(cC, iS), fun q h => by cases h; exact hk⟩
    obtain ⟨x, hx0⟩ := Classical.axiomOfChoice h0
    exact ⟨fun ci => (x ci).1, fun ci => (x ci).2, fun ci q h => hx0 ci q h⟩
  obtain ⟨dA, hdA⟩ : ∃ dA : Nat → ClassId, ∀ t, t < 5 → ArrOfT s (dA t) (mm_aty t) ∧ va_RA s (dA t) (mm_aty t) := by
    have h0 : ∀ t : Nat, ∃ cA : ClassId, t < 5 → ArrOfT s cA (mm_aty t) ∧ va_RA s cA (mm_aty t) := by
      intro t
      by_cases ht : t < 3
      · obtain ⟨cA, k, comp, h1, h2, h3⟩ := Cond.arrayClass_spec (hts _ (st_l6 t ht))
        refine ⟨cA, fun _ => ⟨fun n z => ⟨(fun k h => by cases h), k, h2, comp, h3⟩, ?_⟩⟩
        match t, ht, h1 with
        | 0, _, h1 => exact h1
        | 1, _, h1 => exact h1
        | 2, _, h1 => exact h1
      · by_cases h3 : t = 3
        · subst h3
          obtain ⟨comp, cA, k, h1, -, h2, h4, h5⟩ := Cond.arrayOver_spec (hts _ st_l4)
          exact ⟨cA, fun _ => ⟨fun n z => ⟨(fun k h => by cases h), k, h2, comp, h4⟩, k, comp, h2, h4, h1, h5⟩⟩
        · by_cases h4' : t = 4
          · subst h4'
            obtain ⟨comp, cA, k, h1, -, h2, h4, h5⟩ := Cond.arrayOver_spec (hts _ st_l5)
            exact ⟨cA, fun _ => ⟨fun n z => ⟨(fun k h => by cases h), k, h2, comp, h4⟩, k, comp, h2, h4, h1, h5⟩⟩
          · exact ⟨0, fun h => by omega⟩
    obtain ⟨x, hx0⟩ := Classical.axiomOfChoice h0
    exact ⟨x, hx0⟩
  obtain ⟨G, hG0, hG1, hG2, hG3, hGs⟩ : ∃ G : Nat → Value, G 0 = .ref t0 ∧ G 1 = .int 1 ∧ G 2 = w2 ∧ G 3 = .ref mi ∧ ∀ i, G (10 + i) = .ref (adK i) := by
    refine ⟨fun k => if k = 0 then .ref t0 else if k = 1 then .int 1 else if k = 2 then w2 else if k = 3 then .ref mi else .ref (adK (k - 10)), rfl, rfl, rfl, rfl, fun i => ?_⟩
    dsimp only
    rw [if_neg (by omega), if_neg (by omega), if_neg (by omega), if_neg (by omega), Nat.add_sub_cancel_left]
  obtain ⟨Z, hZb, hZt, hZv, hZk, hZo⟩ : ∃ Z : Nat → Nat → Option mmZ, Z 0 b = some (.inl (1, L, xs)) ∧ Z 0 t0 = some (.inl (3, 0, fun _ => 0)) ∧ (∀ i, i < 15 → ∃ j, j < 15 ∧ adV j = adV i ∧ Z 0 (adV i) = some (.inl (0, st_len.getD j 0, fun k => (st_byt.getD j []).getD k 0))) ∧ (∀ i, i < 15 → ∃ j, j < 15 ∧ adK j = adK i ∧ Z 1 (adK i) = some (.inr (fun k => if k = 0 then .ref (adV j) else .int 0))) ∧ ∀ g a z, Z g a = some z → a < s.heap.size ∧ mm_old (s.heap.size, G, Z) a z s s.heap := by
    refine ⟨fun g a => if g = 0 then (if a = b then some (.inl (1, L, xs)) else if a = t0 then some (.inl (3, 0, fun _ => 0)) else (st_fd adV a).map (fun j => .inl (0, st_len.getD j 0, fun k => (st_byt.getD j []).getD k 0))) else if g = 1 then (st_fd adK a).map (fun i => .inr (fun k => if k = 0 then .ref (adV i) else .int 0)) else none, ?_, ?_, ?_, ?_, ?_⟩
    · simp
    · have hne : t0 ≠ b := fun e => by
        subst e
        cases st_one hT0 hTb
      simp [hne]
    · intro i hi
      obtain ⟨j, hj⟩ := st_fdI (ad := adV) hi
      obtain ⟨hj1, hj2⟩ := st_fdS hj
      have hTv := (hStr i hi).2.2.2.2
      have hne1 : adV i ≠ b := fun e => by
        rw [e] at hTv
        cases st_one hTv hTb
      have hne2 : adV i ≠ t0 := fun e => by
        rw [e] at hTv
        cases st_one hTv hT0
      exact ⟨j, hj1, hj2, by simp [hne1, hne2, hj]⟩
    · intro i hi
      obtain ⟨j, hj⟩ := st_fdI (ad := adK) hi
      obtain ⟨hj1, hj2⟩ := st_fdS hj
      exact ⟨j, hj1, hj2, by simp [hj]⟩
    · intro g a z hz
      dsimp only at hz
      split at hz
      · split at hz
        · rename_i hg hab
          subst hab
          cases hz
          exact ⟨hbl, by decide, hTb⟩
        · split at hz
          · rename_i hab
            subst hab
            cases hz
            exact ⟨hT0l, by decide, hT0⟩
          · cases hf : st_fd adV a with
            | none => rw [hf] at hz; cases hz
            | some j =>
              rw [hf] at hz
              cases hz
              obtain ⟨hj1, hj2⟩ := st_fdS hf
              subst hj2
              have hTv := (hStr j hj1).2.2.2.2
              refine ⟨?_, by decide, hTv⟩
              obtain ⟨cell, q1, -⟩ := hTv
              exact (Array.getElem?_eq_some_iff.mp q1).1
      · split at hz
        · cases hf : st_fd adK a with
          | none => rw [hf] at hz; cases hz
          | some j =>
            rw [hf] at hz
            cases hz
            obtain ⟨hj1, hj2⟩ := st_fdS hf
            subst hj2
            obtain ⟨-, k1, k2, k3, -⟩ := hStr j hj1
            refine ⟨?_, k1, k3, k2⟩
            obtain ⟨cell, q1, -⟩ := k1
            exact (Array.getElem?_eq_some_iff.mp q1).1
        · cases hz
  have hEnv : mm_env (s.heap.size, G, Z) s s.heap := by
    refine ⟨fun g hg => ?_, ⟨mi, hG3, hMi⟩, fun i o x t hi => ?_, hZo, fun w hw => ?_, fun C D hC => va_Nw.of rfl (hts _ hC), va_Dc.of (hts _ st_l3), va_AO.of (hts _ st_l4), va_AO.of (hts _ st_l5)⟩
    · match g, hg with
      | 0, _ =>
        show va_Z _ _ _ (G 0) _ _ _
        rw [hG0]
        exact va_Zof (hts _ (st_l0 0 (by decide))) (hts _ (st_l1 0 (by decide))) ht0 hA
      | 1, _ =>
        show va_Z _ _ _ (G 1) _ _ _
        rw [hG1]
        exact va_Zof (hts _ (st_l0 1 (by decide))) (hts _ (st_l1 1 (by decide))) (va_eqi (hs _ st_g2)) hA
      | 2, _ =>
        show va_Z _ _ _ (G 2) _ _ _
        rw [hG2]
        exact hZ2
    · have hi15 : i < 15 := (List.getElem?_eq_some_iff.mp hi).1
      refine ⟨adK i, hGs i, ?_⟩
      have hg : mm_sts.getD i ("", 0, "") = (o, x, t) := by rw [List.getD_eq_getElem?_getD, hi]; rfl
      have h8 := hts _ (st_s8 i hi15)
      have hev := (hStr i hi15).1
      unfold st_tm at hev
      rw [hg] at h8 hev
      exact vk_R.of h8 hev
    · simp only [mm_nest, List.mem_cons, List.not_mem_nil, or_false] at hw
      have hw2 := hts w (st_l2 w (by simp only [mm_nest, List.mem_cons, List.not_mem_nil, or_false]; exact hw))
      rcases hw with rfl | rfl | rfl | rfl <;> exact va_Nw.of rfl hw2
  have hok : st_ok (s.heap.size, G, Z) b L xs := by
    refine ⟨⟨t0, _, hG0, hZt, hT0l⟩, hG1, ?_, ⟨mi, hG3⟩, fun i hi => ?_, hZb, hbl⟩
    · show G 2 = .null ∨ ∃ a, G 2 = .ref a
      rw [hG2]
      exact hw2
    · obtain ⟨j, hj1, hj2, hj3⟩ := hZv i hi
      obtain ⟨n, hn1, hn2, hn3⟩ := hZk i hi
      have hTi := (hStr i hi).2.2.2.2
      have hTj := (hStr j hj1).2.2.2.2
      rw [hj2] at hTj
      have hVn := (hStr n hn1).2.2.2.1
      rw [hn2] at hVn
      have hv : adV n = adV i := Value.ref.inj (st_ofeq hVn (hStr i hi).2.2.2.1)
      rw [hv] at hn3
      obtain ⟨e1, e2⟩ := st_same (st_s7 i hi) (st_s7 j hj1) hTi hTj
      refine ⟨adK i, adV i, _, _, hGs i, hn3, ((hZo 1 _ _ hn3).1), rfl, rfl, (hZo 0 _ _ hj3).1, by rw [e1]; exact hj3, fun k hk => ?_⟩
      have := e2 k hk
      exact (Value.int.inj this).symm
  obtain ⟨f, hF, hrun, h1, h2⟩ := hp (s.heap.size, G, Z) b L xs hL hok
  have cx : mm_cx (s.heap.size, G, Z) (dC, dI) dA p s m #[Value.ref b] meth c 173 := by
    refine ⟨hx, by rw [st_by]; exact hb, by rw [st_re]; exact hr, by rw [st_ml]; exact hml, by rw [st_own]; exact hown, hts', hlocks, fun hn => absurd hn st_nm, ⟨fun ci q hq => hdC ci q hq, fun k q hk => ?_⟩, hEnv⟩
    have hk5 : k < 5 := (List.getElem?_eq_some_iff.mp hk).1
    rw [mr_ty hk5] at hk
    cases hk
    exact hdA k hk5
  rw [lg_entry_eq, ← st_pc]
  have hrel : mm_rel (s.heap.size, G, Z) (dC, dI) dA (s.heap.size, 0, fun _ => none) s.heap := ⟨rfl, Nat.le_refl _, fun a c hc => by cases hc⟩
  have hle : (mm_lay [Value.ref b]).length ≤ 4 := by simp [mm_lay, mm_wide]
  have hW := mm_W l f p e room_1 s m #[Value.ref b] below meth c (lw_Z below #[Value.ref b] s) (s.heap.size, G, Z) (dC, dI) dA 173 1000 (mm_blk 173 0) (mm_ent 4 [.ref b]) [] (s.heap.size, 0, fun _ => none) (some (.int 1)) hF s.heap _ [] s.heap.size 0 cx (mm_okB 173 0) hrun (by decide) (by decide) h1 (by show hF.2.1 ≤ 0 + 7302250; omega) (Nat.le_refl _) (Nat.le_refl _) hrel va_S.rf (mm_ent_loc hle) (by rw [mm_ent_len hle, st_ml]) (fun H1 locs1 pc ls1 hr1 hS1 hrd => by
    refine va_forget (fun q hq => hS1.2.2 q hq) ?_
    have h1' : hF.1 - s.heap.size ≤ 600000 := by
      have : hF.1 ≤ s.heap.size + 600000 := h1
      omega
    have h2' : hF.2.1 - 0 ≤ 7302250 := by omega
    refine W.widen (k := 600000) (n := 7302250) h1' h2' ?_
    have hd := hrd.1
    rw [st_by] at hd
    exact lw_ret hx hb hr hlocks hd)
  rw [Nat.sub_self] at hW
  exact hW
