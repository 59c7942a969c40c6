/-! THE CLASS: Bounds.copy, Bounds.meet -/
theorem aRm_t {h h' h'' : mmH} {c c' c'' n n' : Nat} (h1 : aRm h h' c c' n) (h2 : aRm h' h'' c' c'' n') (hn : n ≤ n') : aRm h h'' c c'' n' := by
  obtain ⟨a1, a2, a3, a4, a5⟩ := h1
  obtain ⟨b1, b2, b3, b4, b5⟩ := h2
  exact ⟨by omega, by omega, by omega, by omega, by omega⟩
theorem aRm_r {h : mmH} {c n : Nat} : aRm h h c c n := ⟨Nat.le_refl _, Nat.le_refl _, Nat.le_refl _, by omega, Nat.le_refl _⟩
theorem take_getD {α : Type} {l : List α} {i : Nat} {x : α} (hi : i < l.length) : l.take i ++ [l.getD i x] = l.take (i + 1) := by
  rw [List.take_succ, List.getElem?_eq_getElem hi, List.getD_eq_getElem?_getD, List.getElem?_eq_getElem hi]
  rfl
theorem meet_take {ob : Nat → Nat → Int32} {a b : List qR} {i : Nat} (hi : i < a.length) : q_meet ob (a.take (i + 1)) b = q_meet ob (a.take i) b ++ b.filterMap (fun y => q_met ob (a.getD i q_r0) y) := by
  rw [← take_getD (x := q_r0) hi]
  unfold q_meet
  rw [List.flatMap_append, List.flatMap_singleton]
theorem meet_pre {ob : Nat → Nat → Int32} {a b : List qR} {i j : Nat} (hi : i < a.length) : (q_meet ob (a.take i) b ++ (b.take j).filterMap (fun y => q_met ob (a.getD i q_r0) y)).length ≤ (q_meet ob a b).length := by
  have h1 : (q_meet ob (a.take (i + 1)) b).length ≤ (q_meet ob a b).length := by
    have e : q_meet ob a b = q_meet ob (a.take (i + 1)) b ++ q_meet ob (a.drop (i + 1)) b := by
      unfold q_meet
      rw [← List.flatMap_append, List.take_append_drop]
    rw [e, List.length_append]
    omega
  have h2 : ((b.take j).filterMap (fun y => q_met ob (a.getD i q_r0) y)).length ≤ (b.filterMap (fun y => q_met ob (a.getD i q_r0) y)).length := ((List.take_sublist j b).filterMap _).length_le
  rw [meet_take hi, List.length_append] at h1
  rw [List.length_append]
  omega
theorem nws_take {O : Nat → Nat} {a b : List qR} {i : Nat} (hi : i < a.length) : rNws O (a.take (i + 1)) b = rNws O (a.take i) b + b.countP (rNw O (a.getD i q_r0)) := by
  rw [← take_getD (x := q_r0) hi]
  unfold rNws
  rw [List.map_append, List.sum_append]
  rfl
section C
variable {E : mmE} {d : Nat} {h : mmH} {Q : Option Value → mmH → Prop} {N O : Nat → Nat} {own : Nat → Nat}
theorem sp_bcopy {src dst cs cd : Nat} {ls ld : List Nat} (hd : 7 ≤ d) (hE : sE E) (hw : wOk E h own) (hs : gL E h own src cs ls) (hdl : gL E h own dst cd ld) (hne : src ≠ dst) (hcell : ∀ x ∈ ls, ∃ fs, h.2.2 x = some (.inr (7, fs))) (hN : cd ≤ 30000) (hls : ls.length ≤ 10000)
    (hq : ∀ h' own' cd', gL E h' own' dst cd' ls → wOk E h' own' → lFr h h' own own' (fun b => b = dst) → aRm h h' cd cd' ls.length → Q none h') : mm_Go E d 87 (mm_blk 87 0) [.ref src, .ref dst, mm_un] [] h Q := by
  have loop : ∀ (m i : Nat) (H : mmH) (own' : Nat → Nat) (cd' : Nat), m + i = ls.length → gL E H own' dst cd' (ls.take i) → wOk E H own' → lFr h H own own' (fun b => b = dst) → aRm h H cd cd' i → mm_Go E d 87 (mm_blk 87 1) [.ref src, .ref dst, .int (nI i)] [] H Q := by
    intro m
    induction m with
    | zero =>
      intro i H own' cd' hm g1 g2 g3 g4
      have hs' := gL_fr g3 hw.1 hs hne
      repeat (first | refine gi_con ?_ | refine gi_bip (Nat.le_of_ble_eq_true rfl) ?_ | refine gi_sip (Nat.le_of_ble_eq_true rfl) ?_ | refine gi_ldc ?_ | refine gi_add ?_ | refine gi_inc rfl ?_ | refine gi_sub (by omega) ?_ | refine gi_mul ?_ | refine go_nx rfl ?_)
      refine go_step ?_
      refine g_callV (by decide) (by decide) (Nat.le_of_ble_eq_true rfl) (Nat.le_of_ble_eq_true rfl) (gL_rcv hs') (by omega) (Nat.le_of_ble_eq_true rfl) rfl ?_
      refine sp_lsize hs' ?_
      first | refine gb_lt (by omega) (by omega) (fun c => ?_) (fun c => ?_) | refine gb_ge (by omega) (by omega) (fun c => ?_) (fun c => ?_) | refine gb_gt (by omega) (by omega) (fun c => ?_) (fun c => ?_) | refine gb_le (by omega) (by omega) (fun c => ?_) (fun c => ?_) | refine gb_eq (by omega) (by omega) (fun c => ?_) (fun c => ?_) | refine gb_ne (by omega) (by omega) (fun c => ?_) (fun c => ?_)
      rotate_left
      · omega
      refine go_rt rfl ?_
      rw [show i = ls.length by omega] at g1 g4
      rw [List.take_length] at g1
      exact hq H own' cd' g1 g2 g3 g4
    | succ m ih =>
      intro i H own' cd' hm g1 g2 g3 g4
      have hs' := gL_fr g3 hw.1 hs hne
      have hi : i < ls.length := by omega
      have hmem : ls.getD i 0 ∈ ls := getD_mem hi
      obtain ⟨fs, hc⟩ := hcell _ hmem
      have hc' : H.2.2 (ls.getD i 0) = some (.inr (7, fs)) := by rw [lFr_obj g3 hw.1 hc (by decide)]; exact hc
      have hcd : cd' ≤ 40000 := by
        have := g4.2.2.2.1
        omega
      repeat (first | refine gi_con ?_ | refine gi_bip (Nat.le_of_ble_eq_true rfl) ?_ | refine gi_sip (Nat.le_of_ble_eq_true rfl) ?_ | refine gi_ldc ?_ | refine gi_add ?_ | refine gi_inc rfl ?_ | refine gi_sub (by omega) ?_ | refine gi_mul ?_ | refine go_nx rfl ?_)
      refine go_step ?_
      refine g_callV (by decide) (by decide) (Nat.le_of_ble_eq_true rfl) (Nat.le_of_ble_eq_true rfl) (gL_rcv hs') (by omega) (Nat.le_of_ble_eq_true rfl) rfl ?_
      refine sp_lsize hs' ?_
      first | refine gb_lt (by omega) (by omega) (fun c => ?_) (fun c => ?_) | refine gb_ge (by omega) (by omega) (fun c => ?_) (fun c => ?_) | refine gb_gt (by omega) (by omega) (fun c => ?_) (fun c => ?_) | refine gb_le (by omega) (by omega) (fun c => ?_) (fun c => ?_) | refine gb_eq (by omega) (by omega) (fun c => ?_) (fun c => ?_) | refine gb_ne (by omega) (by omega) (fun c => ?_) (fun c => ?_)
      · omega
      repeat (first | refine gi_con ?_ | refine gi_bip (Nat.le_of_ble_eq_true rfl) ?_ | refine gi_sip (Nat.le_of_ble_eq_true rfl) ?_ | refine gi_ldc ?_ | refine gi_add ?_ | refine gi_inc rfl ?_ | refine gi_sub (by omega) ?_ | refine gi_mul ?_ | refine go_nx rfl ?_)
      refine go_step ?_
      refine g_callV (by decide) (by decide) (Nat.le_of_ble_eq_true rfl) (Nat.le_of_ble_eq_true rfl) (gL_rcv hs') (by omega) (Nat.le_of_ble_eq_true rfl) rfl ?_
      refine sp_lget (by omega) hs' hi ?_
      refine gc_cast0 hc' rfl rfl ?_
      refine go_step ?_
      refine g_callV (by decide) (by decide) (Nat.le_of_ble_eq_true rfl) (Nat.le_of_ble_eq_true rfl) (gL_rcv g1) (by omega) (Nat.le_of_ble_eq_true rfl) rfl ?_
      refine sp_ladd (by omega) hE g2 g1 hc' (by decide) hcd (fun h2 own2 cd2 k1 k2 k3 k4 => ?_)
      rw [take_getD hi] at k1
      repeat (first | refine gi_con ?_ | refine gi_bip (Nat.le_of_ble_eq_true rfl) ?_ | refine gi_sip (Nat.le_of_ble_eq_true rfl) ?_ | refine gi_ldc ?_ | refine gi_add ?_ | refine gi_inc rfl ?_ | refine gi_sub (by omega) ?_ | refine gi_mul ?_ | refine go_nx rfl ?_)
      refine go_jp rfl ?_
      have hl : (ls.take i).length = i := by rw [List.length_take]; omega
      rw [hl] at k4
      exact ih (i + 1) h2 own2 cd2 (by omega) k1 k2 (lFr_t g3 k3) (aRm_t g4 k4 (Nat.le_succ _))
  repeat (first | refine gi_con ?_ | refine gi_bip (Nat.le_of_ble_eq_true rfl) ?_ | refine gi_sip (Nat.le_of_ble_eq_true rfl) ?_ | refine gi_ldc ?_ | refine gi_add ?_ | refine gi_inc rfl ?_ | refine gi_sub (by omega) ?_ | refine gi_mul ?_ | refine go_nx rfl ?_)
  refine go_step ?_
  refine g_callV (by decide) (by decide) (Nat.le_of_ble_eq_true rfl) (Nat.le_of_ble_eq_true rfl) (gL_rcv hdl) (by omega) (Nat.le_of_ble_eq_true rfl) rfl ?_
  refine sp_lclear hE hw hdl (fun h1 k1 k2 k3 k4 k5 => ?_)
  repeat (first | refine gi_con ?_ | refine gi_bip (Nat.le_of_ble_eq_true rfl) ?_ | refine gi_sip (Nat.le_of_ble_eq_true rfl) ?_ | refine gi_ldc ?_ | refine gi_add ?_ | refine gi_inc rfl ?_ | refine gi_sub (by omega) ?_ | refine gi_mul ?_ | refine go_nx rfl ?_)
  refine go_jp rfl ?_
  exact loop ls.length 0 h1 own cd (by omega) k1 k2 k3 ⟨by omega, by omega, Nat.le_refl _, by omega, by omega⟩
variable {ob : Nat → Nat → Int32} {P : Nat → Prop}
theorem sp_bmeet {A B S ca cb cs : Nat} {la lb lsp : List Nat} {RA RB : List qR} (hd : 8 ≤ d) (hE : sE E) (hw : wOk E h own) (hO : oIs ob P O) (ha : gL E h own A ca la) (hb : gL E h own B cb lb) (hs : gL E h own S cs lsp) (hAB : A ≠ B) (hAS : A ≠ S) (hBS : B ≠ S) (hra : bR h N O la RA) (hrb : bR h N O lb RB) (sa : rSd P O RA) (sb : rSd P O RB) (hca : ca ≤ 10000) (hcs : cs ≤ 10000) (hla : RA.length ≤ 1000) (hlb : RB.length ≤ 1000)
    (hq : ∀ h' own' ca' cs' la', gL E h' own' A ca' la' → bR h' N O la' (q_meet ob RA RB) → gL E h' own' S cs' la → wOk E h' own' → lFr h h' own own' (fun b => b = A ∨ b = S) → 5 * h'.1 + ca + cs ≤ 5 * h.1 + ca' + cs' + 10 * RB.length → h'.2.1 + 4 * ca + 4 * cs ≤ h.2.1 + 4 * ca' + 4 * cs' + 4 * RB.length → ca ≤ ca' → cs ≤ cs' → ca' ≤ max ca (2 * (q_meet ob RA RB).length + 10) → cs' ≤ max cs (2 * RA.length + 10) → h.2.1 ≤ h'.2.1 → Q none h') : mm_Go E d 86 (mm_blk 86 0) [.ref A, .ref B, .ref S, mm_un, mm_un, mm_un] [] h Q := by
  have hlen := meet_len hO sa sb
  have hnw := nw_le (b := RB) sa
  repeat (first | refine gi_con ?_ | refine gi_bip (Nat.le_of_ble_eq_true rfl) ?_ | refine gi_sip (Nat.le_of_ble_eq_true rfl) ?_ | refine gi_ldc ?_ | refine gi_add ?_ | refine gi_inc rfl ?_ | refine gi_sub (by omega) ?_ | refine gi_mul ?_ | refine go_nx rfl ?_)
  refine go_step ?_
  refine g_call (k := 87) rfl (by omega) (Nat.le_of_ble_eq_true rfl) rfl ?_
  refine sp_bcopy (by omega) hE hw ha hs hAS (bR_cell hra) (by omega) (by rw [hra.1]; omega) (fun h1 own1 cs1 k1 k2 k3 k4 => ?_)
  have ha1 := gL_fr k3 hw.1 ha hAS
  have hb1 := gL_fr k3 hw.1 hb hBS
  repeat (first | refine gi_con ?_ | refine gi_bip (Nat.le_of_ble_eq_true rfl) ?_ | refine gi_sip (Nat.le_of_ble_eq_true rfl) ?_ | refine gi_ldc ?_ | refine gi_add ?_ | refine gi_inc rfl ?_ | refine gi_sub (by omega) ?_ | refine gi_mul ?_ | refine go_nx rfl ?_)
  refine go_step ?_
  refine g_callV (by decide) (by decide) (Nat.le_of_ble_eq_true rfl) (Nat.le_of_ble_eq_true rfl) (gL_rcv ha1) (by omega) (Nat.le_of_ble_eq_true rfl) rfl ?_
  refine sp_lclear hE k2 ha1 (fun h2 p1 p2 p3 p4 p5 => ?_)
  have hs2 : gL E h2 own1 S cs1 la := gL_fr p3 k2.1 k1 (Ne.symm hAS)
  have hb2 : gL E h2 own1 B cb lb := gL_fr p3 k2.1 hb1 (Ne.symm hAB)
  have f2 : lFr h h2 own own1 (fun b => b = A ∨ b = S) := lFr_t (lFr_m k3 hw.2 (fun b _ q => Or.inr q)) (lFr_m p3 k2.2 (fun b _ q => Or.inl q))
  rw [hra.1] at k4
  /- a step of the inner loop adds to the list of A -/
  have outer : ∀ (m i : Nat) (H : mmH) (own' : Nat → Nat) (ca' : Nat) (l' : List Nat) (x4 x5 : Value), m + i = RA.length → gL E H own' A ca' l' → bR H N O l' (q_meet ob (RA.take i) RB) → wOk E H own' → lFr h2 H own1 own' (fun b => b = A) → 5 * H.1 + ca ≤ 5 * h2.1 + ca' + 5 * rNws O (RA.take i) RB → H.2.1 + 4 * ca ≤ h2.2.1 + 4 * ca' + 2 * rNws O (RA.take i) RB → ca ≤ ca' → ca' ≤ max ca (2 * l'.length + 10) → h2.2.1 ≤ H.2.1 → mm_Go E d 86 (mm_blk 86 1) [.ref A, .ref B, .ref S, .int (nI i), x4, x5] [] H Q := by
    intro m
    induction m with
    | zero =>
      intro i H own' ca' l' x4 x5 hm g1 g2 g3 g4 g5 g6 g7 g8 g9
      have hs3 := gL_fr g4 p2.1 hs2 (Ne.symm hAS)
      rw [show i = RA.length by omega, List.take_length] at g2 g5 g6
      repeat (first | refine gi_con ?_ | refine gi_bip (Nat.le_of_ble_eq_true rfl) ?_ | refine gi_sip (Nat.le_of_ble_eq_true rfl) ?_ | refine gi_ldc ?_ | refine gi_add ?_ | refine gi_inc rfl ?_ | refine gi_sub (by omega) ?_ | refine gi_mul ?_ | refine go_nx rfl ?_)
      refine go_step ?_
      refine g_callV (by decide) (by decide) (Nat.le_of_ble_eq_true rfl) (Nat.le_of_ble_eq_true rfl) (gL_rcv hs3) (by omega) (Nat.le_of_ble_eq_true rfl) rfl ?_
      refine sp_lsize hs3 ?_
      rw [hra.1]
      first | refine gb_lt (by omega) (by omega) (fun c => ?_) (fun c => ?_) | refine gb_ge (by omega) (by omega) (fun c => ?_) (fun c => ?_) | refine gb_gt (by omega) (by omega) (fun c => ?_) (fun c => ?_) | refine gb_le (by omega) (by omega) (fun c => ?_) (fun c => ?_) | refine gb_eq (by omega) (by omega) (fun c => ?_) (fun c => ?_) | refine gb_ne (by omega) (by omega) (fun c => ?_) (fun c => ?_)
      rotate_left
      · omega
      refine go_rt rfl ?_
      obtain ⟨r1, r2, r3, r4, r5⟩ := k4
      rw [g2.1] at g8
      refine hq H own' ca' cs1 l' g1 g2 hs3 g3 (lFr_t f2 (lFr_m g4 p2.2 (fun b _ q => Or.inl q))) (by omega) (by omega) g7 r3 g8 r4 (by omega)
    | succ m ih =>
      intro i H own' ca' l' x4 x5 hm g1 g2 g3 g4 g5 g6 g7 g8 g9
      have hi : i < RA.length := by omega
      have inner : ∀ (m2 j : Nat) (H : mmH) (own' : Nat → Nat) (ca' : Nat) (l' : List Nat) (x5 : Value), m2 + j = RB.length → gL E H own' A ca' l' → bR H N O l' (q_meet ob (RA.take i) RB ++ (RB.take j).filterMap (fun y => q_met ob (RA.getD i q_r0) y)) → wOk E H own' → lFr h2 H own1 own' (fun b => b = A) → 5 * H.1 + ca ≤ 5 * h2.1 + ca' + 5 * (rNws O (RA.take i) RB + (RB.take j).countP (rNw O (RA.getD i q_r0))) → H.2.1 + 4 * ca ≤ h2.2.1 + 4 * ca' + 2 * (rNws O (RA.take i) RB + (RB.take j).countP (rNw O (RA.getD i q_r0))) → ca ≤ ca' → ca' ≤ max ca (2 * l'.length + 10) → h2.2.1 ≤ H.2.1 → mm_Go E d 86 (mm_blk 86 2) [.ref A, .ref B, .ref S, .int (nI i), .int (nI j), x5] [] H Q := by
        intro m2
        induction m2 with
        | zero =>
          intro j H own' ca' l' x5 hm2 g1 g2 g3 g4 g5 g6 g7 g8 g9
          have hb3 := gL_fr g4 p2.1 hb2 (Ne.symm hAB)
          rw [show j = RB.length by omega, List.take_length] at g2 g5 g6
          repeat (first | refine gi_con ?_ | refine gi_bip (Nat.le_of_ble_eq_true rfl) ?_ | refine gi_sip (Nat.le_of_ble_eq_true rfl) ?_ | refine gi_ldc ?_ | refine gi_add ?_ | refine gi_inc rfl ?_ | refine gi_sub (by omega) ?_ | refine gi_mul ?_ | refine go_nx rfl ?_)
          refine go_step ?_
          refine g_callV (by decide) (by decide) (Nat.le_of_ble_eq_true rfl) (Nat.le_of_ble_eq_true rfl) (gL_rcv hb3) (by omega) (Nat.le_of_ble_eq_true rfl) rfl ?_
          refine sp_lsize hb3 ?_
          rw [hrb.1]
          first | refine gb_lt (by omega) (by omega) (fun c => ?_) (fun c => ?_) | refine gb_ge (by omega) (by omega) (fun c => ?_) (fun c => ?_) | refine gb_gt (by omega) (by omega) (fun c => ?_) (fun c => ?_) | refine gb_le (by omega) (by omega) (fun c => ?_) (fun c => ?_) | refine gb_eq (by omega) (by omega) (fun c => ?_) (fun c => ?_) | refine gb_ne (by omega) (by omega) (fun c => ?_) (fun c => ?_)
          rotate_left
          · omega
          repeat (first | refine gi_con ?_ | refine gi_bip (Nat.le_of_ble_eq_true rfl) ?_ | refine gi_sip (Nat.le_of_ble_eq_true rfl) ?_ | refine gi_ldc ?_ | refine gi_add ?_ | refine gi_inc rfl ?_ | refine gi_sub (by omega) ?_ | refine gi_mul ?_ | refine go_nx rfl ?_)
          refine go_jp rfl ?_
          rw [← meet_take hi] at g2
          rw [← nws_take hi] at g5 g6
          exact ih (i + 1) H own' ca' l' (.int (nI j)) x5 (by omega) g1 g2 g3 g4 g5 g6 g7 g8 g9
        | succ m2 ih2 =>
          intro j H own' ca' l' x5 hm2 g1 g2 g3 g4 g5 g6 g7 g8 g9
          have hj : j < RB.length := by omega
          have hs3 := gL_fr g4 p2.1 hs2 (Ne.symm hAS)
          have hb3 := gL_fr g4 p2.1 hb2 (Ne.symm hAB)
          have hfr : lFr h H own own' (fun b => b = A ∨ b = S) := lFr_t f2 (lFr_m g4 p2.2 (fun b _ q => Or.inl q))
          have hx : iAt H N O (la.getD i 0) (RA.getD i q_r0) := iAt_fr hfr hw.1 (hra.2 i hi)
          have hy : iAt H N O (lb.getD j 0) (RB.getD j q_r0) := iAt_fr hfr hw.1 (hrb.2 j hj)
          have hcx : ∃ fs, H.2.2 (la.getD i 0) = some (.inr (7, fs)) := by
            obtain ⟨lo, hi', q, -⟩ := hx
            exact ⟨_, q⟩
          have hcy : ∃ fs, H.2.2 (lb.getD j 0) = some (.inr (7, fs)) := by
            obtain ⟨lo, hi', q, -⟩ := hy
            exact ⟨_, q⟩
          obtain ⟨fx, hcx⟩ := hcx
          obtain ⟨fy, hcy⟩ := hcy
          have ok1 := sa.1 _ (getD_mem (x := q_r0) hi)
          have ok2 := sb.1 _ (getD_mem (x := q_r0) hj)
          have hpre := meet_pre (ob := ob) (a := RA) (b := RB) (j := j) hi
          rw [← g2.1] at hpre
          have et : (RB.take (j + 1)).countP (rNw O (RA.getD i q_r0)) = (RB.take j).countP (rNw O (RA.getD i q_r0)) + (if rNw O (RA.getD i q_r0) (RB.getD j q_r0) = true then 1 else 0) := by
            rw [← take_getD (x := q_r0) hj, List.countP_append, List.countP_singleton]
          have ef : (RB.take (j + 1)).filterMap (fun y => q_met ob (RA.getD i q_r0) y) = (RB.take j).filterMap (fun y => q_met ob (RA.getD i q_r0) y) ++ (match q_met ob (RA.getD i q_r0) (RB.getD j q_r0) with
            | none => []
            | some r => [r]) := by
            rw [← take_getD (x := q_r0) hj, List.filterMap_append, List.filterMap_cons, List.filterMap_nil]
            cases q_met ob (RA.getD i q_r0) (RB.getD j q_r0) <;> rfl
          repeat (first | refine gi_con ?_ | refine gi_bip (Nat.le_of_ble_eq_true rfl) ?_ | refine gi_sip (Nat.le_of_ble_eq_true rfl) ?_ | refine gi_ldc ?_ | refine gi_add ?_ | refine gi_inc rfl ?_ | refine gi_sub (by omega) ?_ | refine gi_mul ?_ | refine go_nx rfl ?_)
          refine go_step ?_
          refine g_callV (by decide) (by decide) (Nat.le_of_ble_eq_true rfl) (Nat.le_of_ble_eq_true rfl) (gL_rcv hb3) (by omega) (Nat.le_of_ble_eq_true rfl) rfl ?_
          refine sp_lsize hb3 ?_
          rw [hrb.1]
          first | refine gb_lt (by omega) (by omega) (fun c => ?_) (fun c => ?_) | refine gb_ge (by omega) (by omega) (fun c => ?_) (fun c => ?_) | refine gb_gt (by omega) (by omega) (fun c => ?_) (fun c => ?_) | refine gb_le (by omega) (by omega) (fun c => ?_) (fun c => ?_) | refine gb_eq (by omega) (by omega) (fun c => ?_) (fun c => ?_) | refine gb_ne (by omega) (by omega) (fun c => ?_) (fun c => ?_)
          · omega
          repeat (first | refine gi_con ?_ | refine gi_bip (Nat.le_of_ble_eq_true rfl) ?_ | refine gi_sip (Nat.le_of_ble_eq_true rfl) ?_ | refine gi_ldc ?_ | refine gi_add ?_ | refine gi_inc rfl ?_ | refine gi_sub (by omega) ?_ | refine gi_mul ?_ | refine go_nx rfl ?_)
          refine go_step ?_
          refine g_callV (by decide) (by decide) (Nat.le_of_ble_eq_true rfl) (Nat.le_of_ble_eq_true rfl) (gL_rcv hs3) (by omega) (Nat.le_of_ble_eq_true rfl) rfl ?_
          refine sp_lget (by omega) hs3 (by rw [hra.1]; exact hi) ?_
          refine gc_cast0 hcx rfl rfl ?_
          repeat (first | refine gi_con ?_ | refine gi_bip (Nat.le_of_ble_eq_true rfl) ?_ | refine gi_sip (Nat.le_of_ble_eq_true rfl) ?_ | refine gi_ldc ?_ | refine gi_add ?_ | refine gi_inc rfl ?_ | refine gi_sub (by omega) ?_ | refine gi_mul ?_ | refine go_nx rfl ?_)
          refine go_step ?_
          refine g_callV (by decide) (by decide) (Nat.le_of_ble_eq_true rfl) (Nat.le_of_ble_eq_true rfl) (gL_rcv hb3) (by omega) (Nat.le_of_ble_eq_true rfl) rfl ?_
          refine sp_lget (by omega) hb3 (by rw [hrb.1]; exact hj) ?_
          refine gc_cast0 hcy rfl rfl ?_
          refine go_step ?_
          refine g_callV (by decide) (by decide) (Nat.le_of_ble_eq_true rfl) (Nat.le_of_ble_eq_true rfl) (o_rcv hcx rfl (by decide)) (by omega) (Nat.le_of_ble_eq_true rfl) rfl ?_
          refine sp_imeet (by omega) hO hx hy ok1 ok2 (fun hnone => ?_) (fun r hsome => ⟨fun z hz => ?_, fun hnw lo hi' l1 l2 => ?_⟩)
          · repeat (first | refine gi_con ?_ | refine gi_bip (Nat.le_of_ble_eq_true rfl) ?_ | refine gi_sip (Nat.le_of_ble_eq_true rfl) ?_ | refine gi_ldc ?_ | refine gi_add ?_ | refine gi_inc rfl ?_ | refine gi_sub (by omega) ?_ | refine gi_mul ?_ | refine go_nx rfl ?_)
            refine gn_nN ?_
            repeat (first | refine gi_con ?_ | refine gi_bip (Nat.le_of_ble_eq_true rfl) ?_ | refine gi_sip (Nat.le_of_ble_eq_true rfl) ?_ | refine gi_ldc ?_ | refine gi_add ?_ | refine gi_inc rfl ?_ | refine gi_sub (by omega) ?_ | refine gi_mul ?_ | refine go_nx rfl ?_)
            refine go_jp rfl ?_
            rw [hnone] at ef
            have ef : _ = _ ++ [] := ef
            rw [List.append_nil] at ef
            exact ih2 (j + 1) H own' ca' l' .null (by omega) g1 (by rw [ef]; exact g2) g3 g4 (by rw [et]; omega) (by rw [et]; omega) g7 g8 g9
          · rw [hsome] at ef
            have ef : _ = _ ++ [r] := ef
            have hz0 := hz
            obtain ⟨zl, zh, z1, -⟩ := hz0
            repeat (first | refine gi_con ?_ | refine gi_bip (Nat.le_of_ble_eq_true rfl) ?_ | refine gi_sip (Nat.le_of_ble_eq_true rfl) ?_ | refine gi_ldc ?_ | refine gi_add ?_ | refine gi_inc rfl ?_ | refine gi_sub (by omega) ?_ | refine gi_mul ?_ | refine go_nx rfl ?_)
            refine gn_nR ?_
            repeat (first | refine gi_con ?_ | refine gi_bip (Nat.le_of_ble_eq_true rfl) ?_ | refine gi_sip (Nat.le_of_ble_eq_true rfl) ?_ | refine gi_ldc ?_ | refine gi_add ?_ | refine gi_inc rfl ?_ | refine gi_sub (by omega) ?_ | refine gi_mul ?_ | refine go_nx rfl ?_)
            refine go_step ?_
            refine g_callV (by decide) (by decide) (Nat.le_of_ble_eq_true rfl) (Nat.le_of_ble_eq_true rfl) (gL_rcv g1) (by omega) (Nat.le_of_ble_eq_true rfl) rfl ?_
            refine sp_ladd (by omega) hE g3 g1 z1 (by decide) (by omega) (fun h3 own3 ca3 t1 t2 t3 t4 => ?_)
            repeat (first | refine gi_con ?_ | refine gi_bip (Nat.le_of_ble_eq_true rfl) ?_ | refine gi_sip (Nat.le_of_ble_eq_true rfl) ?_ | refine gi_ldc ?_ | refine gi_add ?_ | refine gi_inc rfl ?_ | refine gi_sub (by omega) ?_ | refine gi_mul ?_ | refine go_nx rfl ?_)
            refine go_jp rfl ?_
            repeat (first | refine gi_con ?_ | refine gi_bip (Nat.le_of_ble_eq_true rfl) ?_ | refine gi_sip (Nat.le_of_ble_eq_true rfl) ?_ | refine gi_ldc ?_ | refine gi_add ?_ | refine gi_inc rfl ?_ | refine gi_sub (by omega) ?_ | refine gi_mul ?_ | refine go_nx rfl ?_)
            refine go_jp rfl ?_
            obtain ⟨r1, r2, r3, r4, r5⟩ := t4
            refine ih2 (j + 1) h3 own3 ca3 (l' ++ [z]) (.ref z) (by omega) t1 (by rw [ef, ← List.append_assoc]; exact bR_fr t3 g3.1 (bR_app g2 hz)) t2 (lFr_t g4 t3) (by rw [et]; omega) (by rw [et]; omega) (by omega) (by rw [List.length_append]; show ca3 ≤ max ca (2 * (l'.length + 1) + 10); omega) (by omega)
          · rw [hsome] at ef
            have ef : _ = _ ++ [r] := ef
            rw [hnw, if_pos rfl] at et
            have w4 := wOk_new (n := 2) (c := .inr (7, [.ref lo, .ref hi'])) g3
            have f4 : lFr H (mm_new H 2 (.inr (7, [.ref lo, .ref hi']))) own' own' (fun b => b = A) := lFr_new
            have f4' : lFr H (mm_new H 2 (.inr (7, [.ref lo, .ref hi']))) own' own' (fun _ => False) := lFr_new
            have g1' := gL_fr f4' g3.1 g1 id
            have hz : iAt (mm_new H 2 (.inr (7, [.ref lo, .ref hi']))) N O H.1 r := ⟨lo, hi', hn_at, by rw [lFr_obj f4 g3.1 l1 (by decide)]; exact l1, by rw [lFr_obj f4 g3.1 l2 (by decide)]; exact l2⟩
            repeat (first | refine gi_con ?_ | refine gi_bip (Nat.le_of_ble_eq_true rfl) ?_ | refine gi_sip (Nat.le_of_ble_eq_true rfl) ?_ | refine gi_ldc ?_ | refine gi_add ?_ | refine gi_inc rfl ?_ | refine gi_sub (by omega) ?_ | refine gi_mul ?_ | refine go_nx rfl ?_)
            refine gn_nR ?_
            repeat (first | refine gi_con ?_ | refine gi_bip (Nat.le_of_ble_eq_true rfl) ?_ | refine gi_sip (Nat.le_of_ble_eq_true rfl) ?_ | refine gi_ldc ?_ | refine gi_add ?_ | refine gi_inc rfl ?_ | refine gi_sub (by omega) ?_ | refine gi_mul ?_ | refine go_nx rfl ?_)
            refine go_step ?_
            refine g_callV (by decide) (by decide) (Nat.le_of_ble_eq_true rfl) (Nat.le_of_ble_eq_true rfl) (gL_rcv g1') (by omega) (Nat.le_of_ble_eq_true rfl) rfl ?_
            refine sp_ladd (by omega) hE w4 g1' hn_at (by decide) (by omega) (fun h3 own3 ca3 t1 t2 t3 t4 => ?_)
            repeat (first | refine gi_con ?_ | refine gi_bip (Nat.le_of_ble_eq_true rfl) ?_ | refine gi_sip (Nat.le_of_ble_eq_true rfl) ?_ | refine gi_ldc ?_ | refine gi_add ?_ | refine gi_inc rfl ?_ | refine gi_sub (by omega) ?_ | refine gi_mul ?_ | refine go_nx rfl ?_)
            refine go_jp rfl ?_
            repeat (first | refine gi_con ?_ | refine gi_bip (Nat.le_of_ble_eq_true rfl) ?_ | refine gi_sip (Nat.le_of_ble_eq_true rfl) ?_ | refine gi_ldc ?_ | refine gi_add ?_ | refine gi_inc rfl ?_ | refine gi_sub (by omega) ?_ | refine gi_mul ?_ | refine go_nx rfl ?_)
            refine go_jp rfl ?_
            obtain ⟨r1, r2, r3, r4, r5⟩ := t4
            have s1 : (mm_new H 2 (.inr (7, [.ref lo, .ref hi']))).1 = H.1 + 1 := rfl
            have s2 : (mm_new H 2 (.inr (7, [.ref lo, .ref hi']))).2.1 = H.2.1 + 2 := rfl
            rw [s1] at r1
            rw [s2] at r2 r5
            refine ih2 (j + 1) h3 own3 ca3 (l' ++ [H.1]) (.ref H.1) (by omega) t1 (by rw [ef, ← List.append_assoc]; exact bR_fr t3 w4.1 (bR_app (bR_fr f4 g3.1 g2) hz)) t2 (lFr_t g4 (lFr_t f4 t3)) (by rw [et]; omega) (by rw [et]; omega) (by omega) (by rw [List.length_append]; show ca3 ≤ max ca (2 * (l'.length + 1) + 10); omega) (by omega)
      have hs3 := gL_fr g4 p2.1 hs2 (Ne.symm hAS)
      repeat (first | refine gi_con ?_ | refine gi_bip (Nat.le_of_ble_eq_true rfl) ?_ | refine gi_sip (Nat.le_of_ble_eq_true rfl) ?_ | refine gi_ldc ?_ | refine gi_add ?_ | refine gi_inc rfl ?_ | refine gi_sub (by omega) ?_ | refine gi_mul ?_ | refine go_nx rfl ?_)
      refine go_step ?_
      refine g_callV (by decide) (by decide) (Nat.le_of_ble_eq_true rfl) (Nat.le_of_ble_eq_true rfl) (gL_rcv hs3) (by omega) (Nat.le_of_ble_eq_true rfl) rfl ?_
      refine sp_lsize hs3 ?_
      rw [hra.1]
      first | refine gb_lt (by omega) (by omega) (fun c => ?_) (fun c => ?_) | refine gb_ge (by omega) (by omega) (fun c => ?_) (fun c => ?_) | refine gb_gt (by omega) (by omega) (fun c => ?_) (fun c => ?_) | refine gb_le (by omega) (by omega) (fun c => ?_) (fun c => ?_) | refine gb_eq (by omega) (by omega) (fun c => ?_) (fun c => ?_) | refine gb_ne (by omega) (by omega) (fun c => ?_) (fun c => ?_)
      · omega
      repeat (first | refine gi_con ?_ | refine gi_bip (Nat.le_of_ble_eq_true rfl) ?_ | refine gi_sip (Nat.le_of_ble_eq_true rfl) ?_ | refine gi_ldc ?_ | refine gi_add ?_ | refine gi_inc rfl ?_ | refine gi_sub (by omega) ?_ | refine gi_mul ?_ | refine go_nx rfl ?_)
      refine go_jp rfl ?_
      exact inner RB.length 0 H own' ca' l' x5 (by omega) g1 (by rw [List.take_zero, List.filterMap_nil, List.append_nil]; exact g2) g3 g4 g5 g6 g7 g8 g9
  repeat (first | refine gi_con ?_ | refine gi_bip (Nat.le_of_ble_eq_true rfl) ?_ | refine gi_sip (Nat.le_of_ble_eq_true rfl) ?_ | refine gi_ldc ?_ | refine gi_add ?_ | refine gi_inc rfl ?_ | refine gi_sub (by omega) ?_ | refine gi_mul ?_ | refine go_nx rfl ?_)
  refine go_jp rfl ?_
  refine outer RA.length 0 h2 own1 ca [] _ _ (by omega) p1 bR_nil p2 (lFr_r _ _ _) (by omega) (by omega) (Nat.le_refl _) (by omega) (Nat.le_refl _)
end C
