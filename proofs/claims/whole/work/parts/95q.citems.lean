/-! THE CLASS: ofItems, ofCondition, addRows -/
theorem ins_get {α : Type} {l : List α} {i k : Nat} {x y : α} (hi : i ≤ l.length) : (l.take i ++ x :: l.drop i).getD k y = if k < i then l.getD k y else if k = i then x else l.getD (k - 1) y := by
  rw [List.getD_eq_getElem?_getD, List.getD_eq_getElem?_getD, List.getD_eq_getElem?_getD]
  have ht : (l.take i).length = i := by rw [List.length_take]; omega
  by_cases h1 : k < i
  · rw [if_pos h1, List.getElem?_append_left (by omega), List.getElem?_take_of_lt h1]
  · rw [if_neg h1, List.getElem?_append_right (by omega), ht]
    by_cases h2 : k = i
    · rw [if_pos h2, h2, Nat.sub_self]
      rfl
    · rw [if_neg h2, show k - i = (k - i - 1) + 1 by omega, List.getElem?_cons_succ, List.getElem?_drop, show i + (k - i - 1) = k - 1 by omega]
section C
variable {E : mmE} {d : Nat} {h h' : mmH} {Q : Option Value → mmH → Prop} {B N O : Nat → Nat} {row n : Nat} {own own' : Nat → Nat} {M : Nat → Prop} {ob : Nat → Nat → Int32} {P : Nat → Prop}
theorem bR_at {l : List Nat} {R : List qR} {x i : Nat} {r : qR} (ha : bR h N O l R) (hi : i ≤ R.length) (hx : iAt h N O x r) : bR h N O (l_at l i x) (R.take i ++ r :: R.drop i) := by
  have e := ha.1
  have hl : (R.take i ++ r :: R.drop i).length = R.length + 1 := by
    rw [List.length_append, List.length_cons, List.length_take, List.length_drop]
    omega
  refine ⟨by rw [l_at_len (by omega), hl, e], fun k hk => ?_⟩
  rw [hl] at hk
  rw [l_at_get (by omega), ins_get hi]
  by_cases h1 : k < i
  · rw [if_pos h1, if_pos h1]
    exact ha.2 k (by omega)
  · rw [if_neg h1, if_neg h1]
    by_cases h2 : k = i
    · rw [if_pos h2, if_pos h2]
      exact hx
    · rw [if_neg h2, if_neg h2]
      exact ha.2 (k - 1) (by omega)
theorem sp_bitems {e lev lim : Nat} (hd : 7 ≤ d) (hE : sE E) (hw : wOk E h own) (hrow : q_row B n) (hO : oIs ob P O) (hc : oCl ob B) (he : ndOk h row B N O n lev lim e) (h4 : B e = 4) (hP : ∀ x ∈ q_box_els B (q_val B e), P x) (hlen : (q_box_els B (q_val B e)).length ≤ 1000)
    (hq : bOut E h own N O (q_items ob B e) (1 + 3 * (q_box_els B (q_val B e)).length) (43 + 15 * (q_box_els B (q_val B e)).length) Q) : mm_Go E d 79 (mm_blk 79 0) [.ref (N e), mm_un, mm_un, mm_un, mm_un] [] h Q := by
  obtain ⟨hnd, hchn, hfi⟩ := nd_sub hrow he (Or.inr h4)
  have loop : ∀ (L : List Nat) (dn : Nat) (acc : List qR) (H : mmH) (own' : Nat → Nat) (cap : Nat) (l' : List Nat) (x3 x4 : Value), dn + L.length = (q_box_els B (q_val B e)).length → (∀ x ∈ L, x ∈ q_box_els B (q_val B e)) → chn B N (q_last B (q_val B e)) L → gL E H own' h.1 cap l' → bR H N O l' acc → rSd P O acc → (∀ r ∈ acc, rPt P B r) → acc.length ≤ dn → wOk E H own' → lFr h H own own' (fun _ => False) → H.1 ≤ h.1 + 1 + 3 * dn → H.2.1 ≤ h.2.1 + 3 + 7 * dn + 4 * cap → cap ≤ 2 * acc.length + 10 → h.2.1 ≤ H.2.1 →
      (L.any (fun i => decide (B i = 4)) = true → q_items ob B e = none) → (L.any (fun i => decide (B i = 4)) = false → q_items ob B e = some (L.foldl (fun acc i => q_insr ob B acc i) acc)) → mm_Go E d 79 (mm_blk 79 1) [.ref (N e), .ref h.1, ptr N L, x3, x4] [] H Q := by
    intro L
    induction L with
    | nil =>
      intro dn acc H own' cap l' x3 x4 hdn hL hch g1 g2 g3 g4 g5 g6 g7 g8 g9 g10 g11 hn hs
      rw [List.length_nil] at hdn
      repeat (first | refine gc_n3 rfl ?_ | refine gc_n6 rfl ?_ | refine gc_n7 rfl ?_ | refine gc_n8 rfl ?_ | refine gc_n9 rfl ?_ | refine gi_con ?_ | refine gi_bip (Nat.le_of_ble_eq_true rfl) ?_ | refine gi_sip (Nat.le_of_ble_eq_true rfl) ?_ | refine gi_ldc ?_ | refine gi_add ?_ | refine gi_inc rfl ?_ | refine gi_sub (by omega) ?_ | refine gi_mul ?_ | refine go_nx rfl ?_)
      refine gn_nN ?_
      repeat (first | refine gc_n3 rfl ?_ | refine gc_n6 rfl ?_ | refine gc_n7 rfl ?_ | refine gc_n8 rfl ?_ | refine gc_n9 rfl ?_ | refine gi_con ?_ | refine gi_bip (Nat.le_of_ble_eq_true rfl) ?_ | refine gi_sip (Nat.le_of_ble_eq_true rfl) ?_ | refine gi_ldc ?_ | refine gi_add ?_ | refine gi_inc rfl ?_ | refine gi_sub (by omega) ?_ | refine gi_mul ?_ | refine go_nx rfl ?_)
      refine go_rt rfl ?_
      exact (hq H own' g6 g7 (by omega) (by omega) g11).2 acc (hs rfl) h.1 cap l' (Nat.le_refl _) g1 g2 g10
    | cons x L ih =>
      intro dn acc H own' cap l' x3 x4 hdn hL hch g1 g2 g3 g4 g5 g6 g7 g8 g9 g10 g11 hn hs
      rw [List.length_cons] at hdn
      have hxe := hL x List.mem_cons_self
      have hx := nd_fr g7 hw.1 (hnd x hxe)
      have hPx := hP x hxe
      have hBx := hrow.2.1 x
      have any_c : (x :: L).any (fun i => decide (B i = 4)) = (decide (B x = 4) || L.any (fun i => decide (B i = 4))) := List.any_cons
      rw [any_c] at hn hs
      repeat (first | refine gc_n3 rfl ?_ | refine gc_n6 rfl ?_ | refine gc_n7 rfl ?_ | refine gc_n8 rfl ?_ | refine gc_n9 rfl ?_ | refine gi_con ?_ | refine gi_bip (Nat.le_of_ble_eq_true rfl) ?_ | refine gi_sip (Nat.le_of_ble_eq_true rfl) ?_ | refine gi_ldc ?_ | refine gi_add ?_ | refine gi_inc rfl ?_ | refine gi_sub (by omega) ?_ | refine gi_mul ?_ | refine go_nx rfl ?_)
      refine gn_nR ?_
      repeat (first | refine gc_n3 rfl ?_ | refine gc_n6 rfl ?_ | refine gc_n7 rfl ?_ | refine gc_n8 rfl ?_ | refine gc_n9 rfl ?_ | refine gi_con ?_ | refine gi_bip (Nat.le_of_ble_eq_true rfl) ?_ | refine gi_sip (Nat.le_of_ble_eq_true rfl) ?_ | refine gi_ldc ?_ | refine gi_add ?_ | refine gi_inc rfl ?_ | refine gi_sub (by omega) ?_ | refine gi_mul ?_ | refine go_nx rfl ?_)
      refine gf_get _ (nd_c hx) (by decide) rfl ?_
      repeat (first | refine gc_n3 rfl ?_ | refine gc_n6 rfl ?_ | refine gc_n7 rfl ?_ | refine gc_n8 rfl ?_ | refine gc_n9 rfl ?_ | refine gi_con ?_ | refine gi_bip (Nat.le_of_ble_eq_true rfl) ?_ | refine gi_sip (Nat.le_of_ble_eq_true rfl) ?_ | refine gi_ldc ?_ | refine gi_add ?_ | refine gi_inc rfl ?_ | refine gi_sub (by omega) ?_ | refine gi_mul ?_ | refine go_nx rfl ?_)
      first | refine gb_lt (by omega) (by omega) (fun c1 => ?_) (fun c1 => ?_) | refine gb_ge (by omega) (by omega) (fun c1 => ?_) (fun c1 => ?_) | refine gb_gt (by omega) (by omega) (fun c1 => ?_) (fun c1 => ?_) | refine gb_le (by omega) (by omega) (fun c1 => ?_) (fun c1 => ?_) | refine gb_eq (by omega) (by omega) (fun c1 => ?_) (fun c1 => ?_) | refine gb_ne (by omega) (by omega) (fun c1 => ?_) (fun c1 => ?_)
      rotate_left
      · rw [decide_eq_true c1] at hn
        repeat (first | refine gc_n3 rfl ?_ | refine gc_n6 rfl ?_ | refine gc_n7 rfl ?_ | refine gc_n8 rfl ?_ | refine gc_n9 rfl ?_ | refine gi_con ?_ | refine gi_bip (Nat.le_of_ble_eq_true rfl) ?_ | refine gi_sip (Nat.le_of_ble_eq_true rfl) ?_ | refine gi_ldc ?_ | refine gi_add ?_ | refine gi_inc rfl ?_ | refine gi_sub (by omega) ?_ | refine gi_mul ?_ | refine go_nx rfl ?_)
        refine go_rt rfl ?_
        exact (hq H own' g6 g7 (by omega) (by omega) g11).1 (hn rfl)
      rw [decide_eq_false c1, Bool.false_or] at hn hs
      refine gc_n6 rfl ?_
      repeat (first | refine gc_n3 rfl ?_ | refine gc_n6 rfl ?_ | refine gc_n7 rfl ?_ | refine gc_n8 rfl ?_ | refine gc_n9 rfl ?_ | refine gi_con ?_ | refine gi_bip (Nat.le_of_ble_eq_true rfl) ?_ | refine gi_sip (Nat.le_of_ble_eq_true rfl) ?_ | refine gi_ldc ?_ | refine gi_add ?_ | refine gi_inc rfl ?_ | refine gi_sub (by omega) ?_ | refine gi_mul ?_ | refine go_nx rfl ?_)
      refine go_step ?_
      refine g_call (k := 80) rfl (by omega) (Nat.le_of_ble_eq_true rfl) rfl ?_
      have f2 : lFr H (mm_new H 5 (.inr (6, [.int 0, .null, .int 0, .int 0, .int 0]))) own' own' (fun _ => False) := lFr_new
      refine sp_endN (nd_c (nd_fr f2 g6.1 hx)) rfl rfl hn_at (Nat.le_refl _) ?_
      rw [hn_set, eC_pt]
      have w3 := wOk_new (n := 5) (c := eCell N O (q_cls (B x), 1, 1, x)) g6
      have f3 : lFr H (mm_new H 5 (eCell N O (q_cls (B x), 1, 1, x))) own' own' (fun _ => False) := lFr_new
      have c3 : (mm_new H 5 (eCell N O (q_cls (B x), 1, 1, x))).2.2 H.1 = some (eCell N O (q_cls (B x), 1, 1, x)) := hn_at
      have s3 : (mm_new H 5 (eCell N O (q_cls (B x), 1, 1, x))).1 = H.1 + 1 := rfl
      have t3 : (mm_new H 5 (eCell N O (q_cls (B x), 1, 1, x))).2.1 = H.2.1 + 5 := rfl
      generalize mm_new H 5 (eCell N O (q_cls (B x), 1, 1, x)) = h3 at w3 f3 c3 s3 t3 ⊢
      have hx3 := nd_fr f3 g6.1 hx
      have l3 := gL_fr f3 g6.1 g1 id
      have r3 := bR_fr f3 g6.1 g2
      have fr3 : lFr h h3 own own' (fun _ => False) := lFr_t g7 f3
      have ek : eLo O (q_cls (B x), 1, 1, x) = eLo O (q_pt B x).1 := rfl
      have bk := eLo_b hO (pt_ok (B := B) (O := O) hPx).1
      have bk1 : (q_pt B x).1.1 ≤ 6 := (q_cls_b (B x)).2
      have c3' : h3.2.2 H.1 = some (.inr (6, [.int (nI (q_cls (B x))), .ref (N x), .int (nI 1), .int (nI (eLo O (q_pt B x).1)), .int (nI (eHi O (q_pt B x).1))])) := c3
      /- an interval of the list -/
      have cellAt : ∀ j, j < acc.length → ∃ lo hi, h3.2.2 (l'.getD j 0) = some (.inr (7, [.ref lo, .ref hi])) ∧ (∃ y1 y2 y3 y5, h3.2.2 lo = some (.inr (6, [y1, y2, y3, .int (nI (eLo O (acc.getD j q_r0).1)), y5]))) ∧ eLo O (acc.getD j q_r0).1 < 2 ^ 30 := by
        intro j hj
        obtain ⟨lo, hi, q1, q2, q3⟩ := r3.2 j hj
        have ok := g3.1 _ (getD_mem (x := q_r0) hj)
        have b1 := eLo_b hO ok.1
        have b2 := ok.1.1
        exact ⟨lo, hi, q1, ⟨_, _, _, _, q2⟩, by omega⟩
      have hl' := r3.1
      have six : ∀ (h6 : mmH) (own6 : Nat → Nat) (cap6 : Nat) (l6 : List Nat) (pl : Nat), gL E h6 own6 h.1 cap6 l6 → bR h6 N O l6 (q_insr ob B acc x) → wOk E h6 own6 → lFr h h6 own own6 (fun _ => False) → h6.1 ≤ h3.1 + 2 → h6.2.1 + 4 * cap ≤ h3.2.1 + 2 + 4 * cap6 → cap6 ≤ 2 * (q_insr ob B acc x).length + 10 → h3.2.1 ≤ h6.2.1 → mm_Go E d 79 (mm_blk 79 6) [.ref (N e), .ref h.1, .ref (N x), .ref H.1, .int (nI pl)] [] h6 Q := by
        intro h6 own6 cap6 l6 pl q1 q2 q3 q4 q5 q6 q7 q8
        have hx6 := nd_fr q4 hw.1 (hnd x hxe)
        have hin := insr_sd hO hc g3 g4 hPx
        have hle := q_insr_len ob B acc x
        repeat (first | refine gc_n3 rfl ?_ | refine gc_n6 rfl ?_ | refine gc_n7 rfl ?_ | refine gc_n8 rfl ?_ | refine gc_n9 rfl ?_ | refine gi_con ?_ | refine gi_bip (Nat.le_of_ble_eq_true rfl) ?_ | refine gi_sip (Nat.le_of_ble_eq_true rfl) ?_ | refine gi_ldc ?_ | refine gi_add ?_ | refine gi_inc rfl ?_ | refine gi_sub (by omega) ?_ | refine gi_mul ?_ | refine go_nx rfl ?_)
        refine gf_get _ (nd_c hx6) (by decide) rfl ?_
        rw [hch.1]
        have go := ih (dn + 1) (q_insr ob B acc x) h6 own6 cap6 l6 (.ref H.1) (.int (nI pl)) (by omega) (fun y hy => hL y (List.mem_cons_of_mem x hy)) hch.2 q1 q2 hin.1 hin.2 (by omega) q3 q4 (by omega) (by omega) q7 (by omega) hn hs
        rcases ptr_two N L with z | ⟨z, z'⟩
        · rw [z] at go ⊢
          repeat (first | refine gc_n3 rfl ?_ | refine gc_n6 rfl ?_ | refine gc_n7 rfl ?_ | refine gc_n8 rfl ?_ | refine gc_n9 rfl ?_ | refine gi_con ?_ | refine gi_bip (Nat.le_of_ble_eq_true rfl) ?_ | refine gi_sip (Nat.le_of_ble_eq_true rfl) ?_ | refine gi_ldc ?_ | refine gi_add ?_ | refine gi_inc rfl ?_ | refine gi_sub (by omega) ?_ | refine gi_mul ?_ | refine go_nx rfl ?_)
          refine go_jp rfl ?_
          exact go
        · rw [z'] at go ⊢
          repeat (first | refine gc_n3 rfl ?_ | refine gc_n6 rfl ?_ | refine gc_n7 rfl ?_ | refine gc_n8 rfl ?_ | refine gc_n9 rfl ?_ | refine gi_con ?_ | refine gi_bip (Nat.le_of_ble_eq_true rfl) ?_ | refine gi_sip (Nat.le_of_ble_eq_true rfl) ?_ | refine gi_ldc ?_ | refine gi_add ?_ | refine gi_inc rfl ?_ | refine gi_sub (by omega) ?_ | refine gi_mul ?_ | refine go_nx rfl ?_)
          refine go_jp rfl ?_
          exact go
      have five : ∀ pl, pl ≤ acc.length → q_insr ob B acc x = acc.take pl ++ q_pt B x :: acc.drop pl → mm_Go E d 79 (mm_blk 79 5) [.ref (N e), .ref h.1, .ref (N x), .ref H.1, .int (nI pl)] [] h3 Q := by
        intro pl hpl hins
        repeat (first | refine gc_n3 rfl ?_ | refine gc_n6 rfl ?_ | refine gc_n7 rfl ?_ | refine gc_n8 rfl ?_ | refine gc_n9 rfl ?_ | refine gi_con ?_ | refine gi_bip (Nat.le_of_ble_eq_true rfl) ?_ | refine gi_sip (Nat.le_of_ble_eq_true rfl) ?_ | refine gi_ldc ?_ | refine gi_add ?_ | refine gi_inc rfl ?_ | refine gi_sub (by omega) ?_ | refine gi_mul ?_ | refine go_nx rfl ?_)
        repeat (first | refine gc_n3 rfl ?_ | refine gc_n6 rfl ?_ | refine gc_n7 rfl ?_ | refine gc_n8 rfl ?_ | refine gc_n9 rfl ?_ | refine gi_con ?_ | refine gi_bip (Nat.le_of_ble_eq_true rfl) ?_ | refine gi_sip (Nat.le_of_ble_eq_true rfl) ?_ | refine gi_ldc ?_ | refine gi_add ?_ | refine gi_inc rfl ?_ | refine gi_sub (by omega) ?_ | refine gi_mul ?_ | refine go_nx rfl ?_)
        refine go_step ?_
        refine g_call (k := 82) rfl (by omega) (Nat.le_of_ble_eq_true rfl) rfl ?_
        refine sp_iinit hn_at ?_
        rw [hn_set]
        have w4 := wOk_new (n := 2) (c := .inr (7, [.ref H.1, .ref H.1])) w3
        have f4 : lFr h3 (mm_new h3 2 (.inr (7, [.ref H.1, .ref H.1]))) own' own' (fun _ => False) := lFr_new
        have l4 := gL_fr f4 w3.1 l3 id
        have r4 := bR_fr f4 w3.1 r3
        have c4 := lFr_obj f4 w3.1 c3 (by decide)
        rw [c3] at c4
        have i4 : iAt (mm_new h3 2 (.inr (7, [.ref H.1, .ref H.1]))) N O h3.1 (q_pt B x) := ⟨H.1, H.1, hn_at, c4, c4⟩
        have s4 : (mm_new h3 2 (.inr (7, [.ref H.1, .ref H.1]))).1 = h3.1 + 1 := rfl
        have t4 : (mm_new h3 2 (.inr (7, [.ref H.1, .ref H.1]))).2.1 = h3.2.1 + 2 := rfl
        refine go_step ?_
        refine g_callV (by decide) (by decide) (Nat.le_of_ble_eq_true rfl) (Nat.le_of_ble_eq_true rfl) (gL_rcv l4) (by omega) (Nat.le_of_ble_eq_true rfl) rfl ?_
        refine sp_laddAt (by omega) hE w4 l4 hn_at (by decide) (by omega) (by omega) (fun h6 own6 cap6 q1 q2 q3 q4 q5 q6 q7 => ?_)
        repeat (first | refine gc_n3 rfl ?_ | refine gc_n6 rfl ?_ | refine gc_n7 rfl ?_ | refine gc_n8 rfl ?_ | refine gc_n9 rfl ?_ | refine gi_con ?_ | refine gi_bip (Nat.le_of_ble_eq_true rfl) ?_ | refine gi_sip (Nat.le_of_ble_eq_true rfl) ?_ | refine gi_ldc ?_ | refine gi_add ?_ | refine gi_inc rfl ?_ | refine gi_sub (by omega) ?_ | refine gi_mul ?_ | refine go_nx rfl ?_)
        refine go_jp rfl ?_
        have hil : (q_insr ob B acc x).length = acc.length + 1 := by
          rw [hins, List.length_append, List.length_cons, List.length_take, List.length_drop]
          omega
        refine six h6 own6 cap6 _ pl q1 ?_ q2 (lFr_tm (lFr_t fr3 f4) q3 hw.2 (fun b hb q => by omega)) (by omega) (by omega) (by rw [hil]; omega) (by omega)
        rw [hins]
        exact bR_fr q3 w4.1 (bR_at r4 hpl i4)
      have skip : ∀ pl, q_insr ob B acc x = acc → mm_Go E d 79 (mm_blk 79 6) [.ref (N e), .ref h.1, .ref (N x), .ref H.1, .int (nI pl)] [] h3 Q := fun pl hins => six h3 own' cap l' pl l3 (by rw [hins]; exact r3) w3 fr3 (by omega) (by omega) (by rw [hins]; exact g10) (Nat.le_refl _)
      have four : ∀ pl, pl ≤ acc.length → (∀ j, pl ≤ j → j < acc.length → eLo O (q_pt B x).1 < eLo O (acc.getD j q_r0).1) → (0 < pl → eLo O (acc.getD (pl - 1) q_r0).1 ≤ eLo O (q_pt B x).1) → mm_Go E d 79 (mm_blk 79 4) [.ref (N e), .ref h.1, .ref (N x), .ref H.1, .int (nI pl)] [] h3 Q := by
        intro pl hpl p1 p2
        have his := insr_is hO hc g3 g4 hPx hpl p1 p2
        repeat (first | refine gc_n3 rfl ?_ | refine gc_n6 rfl ?_ | refine gc_n7 rfl ?_ | refine gc_n8 rfl ?_ | refine gc_n9 rfl ?_ | refine gi_con ?_ | refine gi_bip (Nat.le_of_ble_eq_true rfl) ?_ | refine gi_sip (Nat.le_of_ble_eq_true rfl) ?_ | refine gi_ldc ?_ | refine gi_add ?_ | refine gi_inc rfl ?_ | refine gi_sub (by omega) ?_ | refine gi_mul ?_ | refine go_nx rfl ?_)
        first | refine gz_eq (by omega) (fun c5 => ?_) (fun c5 => ?_) | refine gz_ne (by omega) (fun c5 => ?_) (fun c5 => ?_) | refine gz_le (by omega) (fun c5 => ?_) (fun c5 => ?_) | refine gz_gt (by omega) (fun c5 => ?_) (fun c5 => ?_) | refine gz_lt (by omega) (fun c5 => ?_) (fun c5 => ?_) | refine gz_ge (by omega) (fun c5 => ?_) (fun c5 => ?_)
        · rw [if_pos (Or.inl c5)] at his
          exact five pl hpl his
        obtain ⟨lo, hi, q1, ⟨y1, y2, y3, y5, q2⟩, q3⟩ := cellAt (pl - 1) (by omega)
        repeat (first | refine gc_n3 rfl ?_ | refine gc_n6 rfl ?_ | refine gc_n7 rfl ?_ | refine gc_n8 rfl ?_ | refine gc_n9 rfl ?_ | refine gi_con ?_ | refine gi_bip (Nat.le_of_ble_eq_true rfl) ?_ | refine gi_sip (Nat.le_of_ble_eq_true rfl) ?_ | refine gi_ldc ?_ | refine gi_add ?_ | refine gi_inc rfl ?_ | refine gi_sub (by omega) ?_ | refine gi_mul ?_ | refine go_nx rfl ?_)
        refine go_step ?_
        refine g_callV (by decide) (by decide) (Nat.le_of_ble_eq_true rfl) (Nat.le_of_ble_eq_true rfl) (gL_rcv l3) (by omega) (Nat.le_of_ble_eq_true rfl) rfl ?_
        refine sp_lget (by omega) l3 (by omega) ?_
        refine gc_cast0 q1 rfl rfl ?_
        refine gf_get _ q1 (by decide) rfl ?_
        refine gf_get _ q2 (by decide) rfl ?_
        repeat (first | refine gc_n3 rfl ?_ | refine gc_n6 rfl ?_ | refine gc_n7 rfl ?_ | refine gc_n8 rfl ?_ | refine gc_n9 rfl ?_ | refine gi_con ?_ | refine gi_bip (Nat.le_of_ble_eq_true rfl) ?_ | refine gi_sip (Nat.le_of_ble_eq_true rfl) ?_ | refine gi_ldc ?_ | refine gi_add ?_ | refine gi_inc rfl ?_ | refine gi_sub (by omega) ?_ | refine gi_mul ?_ | refine go_nx rfl ?_)
        refine gf_get _ c3' (by decide) rfl ?_
        first | refine gb_lt (by omega) (by omega) (fun c6 => ?_) (fun c6 => ?_) | refine gb_ge (by omega) (by omega) (fun c6 => ?_) (fun c6 => ?_) | refine gb_gt (by omega) (by omega) (fun c6 => ?_) (fun c6 => ?_) | refine gb_le (by omega) (by omega) (fun c6 => ?_) (fun c6 => ?_) | refine gb_eq (by omega) (by omega) (fun c6 => ?_) (fun c6 => ?_) | refine gb_ne (by omega) (by omega) (fun c6 => ?_) (fun c6 => ?_)
        · rw [if_neg (show ¬ (pl = 0 ∨ eLo O (acc.getD (pl - 1) q_r0).1 < eLo O (q_pt B x).1) by omega)] at his
          exact skip pl his
        · rw [if_pos (Or.inr (by omega))] at his
          repeat (first | refine gc_n3 rfl ?_ | refine gc_n6 rfl ?_ | refine gc_n7 rfl ?_ | refine gc_n8 rfl ?_ | refine gc_n9 rfl ?_ | refine gi_con ?_ | refine gi_bip (Nat.le_of_ble_eq_true rfl) ?_ | refine gi_sip (Nat.le_of_ble_eq_true rfl) ?_ | refine gi_ldc ?_ | refine gi_add ?_ | refine gi_inc rfl ?_ | refine gi_sub (by omega) ?_ | refine gi_mul ?_ | refine go_nx rfl ?_)
          refine go_jp rfl ?_
          exact five pl hpl his
      have three : ∀ pl, pl ≤ acc.length → (∀ j, pl ≤ j → j < acc.length → eLo O (q_pt B x).1 < eLo O (acc.getD j q_r0).1) → mm_Go E d 79 (mm_blk 79 3) [.ref (N e), .ref h.1, .ref (N x), .ref H.1, .int (nI pl)] [] h3 Q := by
        intro pl
        induction pl with
        | zero =>
          intro hpl p1
          repeat (first | refine gc_n3 rfl ?_ | refine gc_n6 rfl ?_ | refine gc_n7 rfl ?_ | refine gc_n8 rfl ?_ | refine gc_n9 rfl ?_ | refine gi_con ?_ | refine gi_bip (Nat.le_of_ble_eq_true rfl) ?_ | refine gi_sip (Nat.le_of_ble_eq_true rfl) ?_ | refine gi_ldc ?_ | refine gi_add ?_ | refine gi_inc rfl ?_ | refine gi_sub (by omega) ?_ | refine gi_mul ?_ | refine go_nx rfl ?_)
          first | refine gz_eq (by omega) (fun c5 => ?_) (fun c5 => ?_) | refine gz_ne (by omega) (fun c5 => ?_) (fun c5 => ?_) | refine gz_le (by omega) (fun c5 => ?_) (fun c5 => ?_) | refine gz_gt (by omega) (fun c5 => ?_) (fun c5 => ?_) | refine gz_lt (by omega) (fun c5 => ?_) (fun c5 => ?_) | refine gz_ge (by omega) (fun c5 => ?_) (fun c5 => ?_)
          · exact four 0 hpl p1 (fun q => absurd q (Nat.lt_irrefl _))
          · omega
        | succ pl ihp =>
          intro hpl p1
          repeat (first | refine gc_n3 rfl ?_ | refine gc_n6 rfl ?_ | refine gc_n7 rfl ?_ | refine gc_n8 rfl ?_ | refine gc_n9 rfl ?_ | refine gi_con ?_ | refine gi_bip (Nat.le_of_ble_eq_true rfl) ?_ | refine gi_sip (Nat.le_of_ble_eq_true rfl) ?_ | refine gi_ldc ?_ | refine gi_add ?_ | refine gi_inc rfl ?_ | refine gi_sub (by omega) ?_ | refine gi_mul ?_ | refine go_nx rfl ?_)
          first | refine gz_eq (by omega) (fun c5 => ?_) (fun c5 => ?_) | refine gz_ne (by omega) (fun c5 => ?_) (fun c5 => ?_) | refine gz_le (by omega) (fun c5 => ?_) (fun c5 => ?_) | refine gz_gt (by omega) (fun c5 => ?_) (fun c5 => ?_) | refine gz_lt (by omega) (fun c5 => ?_) (fun c5 => ?_) | refine gz_ge (by omega) (fun c5 => ?_) (fun c5 => ?_)
          · omega
          obtain ⟨lo, hi, q1, ⟨y1, y2, y3, y5, q2⟩, q3⟩ := cellAt pl (by omega)
          repeat (first | refine gc_n3 rfl ?_ | refine gc_n6 rfl ?_ | refine gc_n7 rfl ?_ | refine gc_n8 rfl ?_ | refine gc_n9 rfl ?_ | refine gi_con ?_ | refine gi_bip (Nat.le_of_ble_eq_true rfl) ?_ | refine gi_sip (Nat.le_of_ble_eq_true rfl) ?_ | refine gi_ldc ?_ | refine gi_add ?_ | refine gi_inc rfl ?_ | refine gi_sub (by omega) ?_ | refine gi_mul ?_ | refine go_nx rfl ?_)
          rw [show pl + 1 - 1 = pl from rfl]
          refine go_step ?_
          refine g_callV (by decide) (by decide) (Nat.le_of_ble_eq_true rfl) (Nat.le_of_ble_eq_true rfl) (gL_rcv l3) (by omega) (Nat.le_of_ble_eq_true rfl) rfl ?_
          refine sp_lget (by omega) l3 (by omega) ?_
          refine gc_cast0 q1 rfl rfl ?_
          refine gf_get _ q1 (by decide) rfl ?_
          refine gf_get _ q2 (by decide) rfl ?_
          repeat (first | refine gc_n3 rfl ?_ | refine gc_n6 rfl ?_ | refine gc_n7 rfl ?_ | refine gc_n8 rfl ?_ | refine gc_n9 rfl ?_ | refine gi_con ?_ | refine gi_bip (Nat.le_of_ble_eq_true rfl) ?_ | refine gi_sip (Nat.le_of_ble_eq_true rfl) ?_ | refine gi_ldc ?_ | refine gi_add ?_ | refine gi_inc rfl ?_ | refine gi_sub (by omega) ?_ | refine gi_mul ?_ | refine go_nx rfl ?_)
          refine gf_get _ c3' (by decide) rfl ?_
          first | refine gb_lt (by omega) (by omega) (fun c6 => ?_) (fun c6 => ?_) | refine gb_ge (by omega) (by omega) (fun c6 => ?_) (fun c6 => ?_) | refine gb_gt (by omega) (by omega) (fun c6 => ?_) (fun c6 => ?_) | refine gb_le (by omega) (by omega) (fun c6 => ?_) (fun c6 => ?_) | refine gb_eq (by omega) (by omega) (fun c6 => ?_) (fun c6 => ?_) | refine gb_ne (by omega) (by omega) (fun c6 => ?_) (fun c6 => ?_)
          · exact four (pl + 1) hpl p1 (fun _ => by rw [Nat.add_sub_cancel]; omega)
          · refine go_nx rfl ?_
            rw [nI_dec (by omega), Nat.add_sub_cancel]
            refine go_jp rfl ?_
            refine ihp (by omega) (fun j j1 j2 => ?_)
            by_cases ej : j = pl
            · rw [ej]; omega
            · exact p1 j (by omega) j2
      repeat (first | refine gc_n3 rfl ?_ | refine gc_n6 rfl ?_ | refine gc_n7 rfl ?_ | refine gc_n8 rfl ?_ | refine gc_n9 rfl ?_ | refine gi_con ?_ | refine gi_bip (Nat.le_of_ble_eq_true rfl) ?_ | refine gi_sip (Nat.le_of_ble_eq_true rfl) ?_ | refine gi_ldc ?_ | refine gi_add ?_ | refine gi_inc rfl ?_ | refine gi_sub (by omega) ?_ | refine gi_mul ?_ | refine go_nx rfl ?_)
      refine go_step ?_
      refine g_callV (by decide) (by decide) (Nat.le_of_ble_eq_true rfl) (Nat.le_of_ble_eq_true rfl) (gL_rcv l3) (by omega) (Nat.le_of_ble_eq_true rfl) rfl ?_
      refine sp_lsize l3 ?_
      rw [hl']
      repeat (first | refine gc_n3 rfl ?_ | refine gc_n6 rfl ?_ | refine gc_n7 rfl ?_ | refine gc_n8 rfl ?_ | refine gc_n9 rfl ?_ | refine gi_con ?_ | refine gi_bip (Nat.le_of_ble_eq_true rfl) ?_ | refine gi_sip (Nat.le_of_ble_eq_true rfl) ?_ | refine gi_ldc ?_ | refine gi_add ?_ | refine gi_inc rfl ?_ | refine gi_sub (by omega) ?_ | refine gi_mul ?_ | refine go_nx rfl ?_)
      refine go_jp rfl ?_
      exact three acc.length (Nat.le_refl _) (fun j j1 j2 => by omega)
  refine gc_n3 rfl ?_
  repeat (first | refine gc_n3 rfl ?_ | refine gc_n6 rfl ?_ | refine gc_n7 rfl ?_ | refine gc_n8 rfl ?_ | refine gc_n9 rfl ?_ | refine gi_con ?_ | refine gi_bip (Nat.le_of_ble_eq_true rfl) ?_ | refine gi_sip (Nat.le_of_ble_eq_true rfl) ?_ | refine gi_ldc ?_ | refine gi_add ?_ | refine gi_inc rfl ?_ | refine gi_sub (by omega) ?_ | refine gi_mul ?_ | refine go_nx rfl ?_)
  refine go_step ?_
  refine g_call (k := 22) rfl (by omega) (Nat.le_of_ble_eq_true rfl) rfl ?_
  refine sp_lnew (by omega) hE hw (fun h1 k1 k2 k3 k4 k5 => ?_)
  repeat (first | refine gc_n3 rfl ?_ | refine gc_n6 rfl ?_ | refine gc_n7 rfl ?_ | refine gc_n8 rfl ?_ | refine gc_n9 rfl ?_ | refine gi_con ?_ | refine gi_bip (Nat.le_of_ble_eq_true rfl) ?_ | refine gi_sip (Nat.le_of_ble_eq_true rfl) ?_ | refine gi_ldc ?_ | refine gi_add ?_ | refine gi_inc rfl ?_ | refine gi_sub (by omega) ?_ | refine gi_mul ?_ | refine go_nx rfl ?_)
  refine gf_get _ (nd_c (nd_fr k3 hw.1 he)) (by decide) rfl ?_
  rw [hfi]
  have go := loop (q_box_els B (q_val B e)) 0 [] h1 own 0 [] mm_un mm_un (by omega) (fun x hx => hx) hchn k1 bR_nil ⟨fun r hr => absurd hr List.not_mem_nil, List.Pairwise.nil⟩ (fun r hr => absurd hr List.not_mem_nil) (Nat.le_refl _) k2 k3 (by omega) (by omega) (Nat.zero_le _) (by omega) (fun q => if_pos q) (fun q => if_neg (by rw [show q_els B (q_last B (q_val B e)) 2001 (q_val B e + 4) = q_box_els B (q_val B e) from rfl, q]; exact Bool.noConfusion))
  rcases ptr_two N (q_box_els B (q_val B e)) with z | ⟨z, z'⟩
  · rw [z] at go ⊢
    repeat (first | refine gc_n3 rfl ?_ | refine gc_n6 rfl ?_ | refine gc_n7 rfl ?_ | refine gc_n8 rfl ?_ | refine gc_n9 rfl ?_ | refine gi_con ?_ | refine gi_bip (Nat.le_of_ble_eq_true rfl) ?_ | refine gi_sip (Nat.le_of_ble_eq_true rfl) ?_ | refine gi_ldc ?_ | refine gi_add ?_ | refine gi_inc rfl ?_ | refine gi_sub (by omega) ?_ | refine gi_mul ?_ | refine go_nx rfl ?_)
    refine go_jp rfl ?_
    exact go
  · rw [z'] at go ⊢
    repeat (first | refine gc_n3 rfl ?_ | refine gc_n6 rfl ?_ | refine gc_n7 rfl ?_ | refine gc_n8 rfl ?_ | refine gc_n9 rfl ?_ | refine gi_con ?_ | refine gi_bip (Nat.le_of_ble_eq_true rfl) ?_ | refine gi_sip (Nat.le_of_ble_eq_true rfl) ?_ | refine gi_ldc ?_ | refine gi_add ?_ | refine gi_inc rfl ?_ | refine gi_sub (by omega) ?_ | refine gi_mul ?_ | refine go_nx rfl ?_)
    refine go_jp rfl ?_
    exact go
/-- the bounds by a word -/
def q_cb (ob : Nat → Nat → Int32) (B : Nat → Nat) (w e : Nat) : Option (List qR) := if 1 ≤ q_nof w ∧ q_nof w ≤ 6 then q_wb ob B (q_nof w) e else none
theorem sp_bcond2 {e w lev lim k : Nat} (hd : 8 ≤ d) (hE : sE E) (hw : wOk E h own) (hrow : q_row B n) (hO : oIs ob P O) (hc : oCl ob B) (he : ndOk h row B N O n lev lim e) (hww : w ≤ 16) (h7 : w = 7 → B e = 4 ∧ (∀ x ∈ q_box_els B (q_val B e), P x) ∧ (q_box_els B (q_val B e)).length < sT B k e ∧ (q_box_els B (q_val B e)).length ≤ 1000)
    (hq0 : ¬ (1 ≤ q_nof w ∧ q_nof w ≤ 6) → Q (some .null) h) (hq : 1 ≤ q_nof w ∧ q_nof w ≤ 6 → bOut E h own N O (q_wb ob B (q_nof w) e) (6 + 3 * sT B k e) (63 + 15 * sT B k e) Q) : mm_Go E d 78 (mm_blk 78 0) [.ref (N e), .int (nI w)] [] h Q := by
  have tab : ∀ w, w < 17 → mm_sw 5 5 [2, 5, 1, 5, 2, 2, 2, 2] (nI w) = (if w = 7 then 1 else if w = 5 ∨ (9 ≤ w ∧ w ≤ 12) then 2 else 5) := by decide +kernel
  have hn : ∀ w, w < 17 → (q_nof w = 2 ↔ w = 7) ∧ ((1 ≤ q_nof w ∧ q_nof w ≤ 6) ↔ (w = 7 ∨ w = 5 ∨ (9 ≤ w ∧ w ≤ 12))) := by decide +kernel
  have hB := hrow.2.1 e
  have hnw := hn w (by omega)
  repeat (first | refine gc_n3 rfl ?_ | refine gc_n6 rfl ?_ | refine gc_n7 rfl ?_ | refine gc_n8 rfl ?_ | refine gc_n9 rfl ?_ | refine gi_con ?_ | refine gi_bip (Nat.le_of_ble_eq_true rfl) ?_ | refine gi_sip (Nat.le_of_ble_eq_true rfl) ?_ | refine gi_ldc ?_ | refine gi_add ?_ | refine gi_inc rfl ?_ | refine gi_sub (by omega) ?_ | refine gi_mul ?_ | refine go_nx rfl ?_)
  refine go_jp rfl ?_
  show mm_Go E d 78 (mm_blk 78 (mm_sw 5 5 [2, 5, 1, 5, 2, 2, 2, 2] (nI w))) _ _ _ _
  rw [tab w (by omega)]
  by_cases w7 : w = 7
  · rw [if_pos w7]
    obtain ⟨a1, a2, a3, a4⟩ := h7 w7
    have hq := hq (hnw.2.mpr (Or.inl w7))
    have e1 : q_wb ob B (q_nof w) e = q_items ob B e := by
      unfold q_wb
      rw [if_pos (hnw.1.mpr w7)]
    rw [e1] at hq
    repeat (first | refine gc_n3 rfl ?_ | refine gc_n6 rfl ?_ | refine gc_n7 rfl ?_ | refine gc_n8 rfl ?_ | refine gc_n9 rfl ?_ | refine gi_con ?_ | refine gi_bip (Nat.le_of_ble_eq_true rfl) ?_ | refine gi_sip (Nat.le_of_ble_eq_true rfl) ?_ | refine gi_ldc ?_ | refine gi_add ?_ | refine gi_inc rfl ?_ | refine gi_sub (by omega) ?_ | refine gi_mul ?_ | refine go_nx rfl ?_)
    refine go_step ?_
    refine g_call (k := 79) rfl (by omega) (Nat.le_of_ble_eq_true rfl) rfl ?_
    refine sp_bitems (by omega) hE hw hrow hO hc he a1 a2 a4 ?_
    intro h' own' b1 b2 b3 b4 b5
    have := hq h' own' b1 b2 (by omega) (by omega) b5
    refine ⟨fun q => ?_, fun R q a cap l' p1 p2 p3 p4 => ?_⟩
    · refine go_rt rfl ?_
      exact this.1 q
    · refine go_rt rfl ?_
      exact this.2 R q a cap l' p1 p2 p3 p4
  · rw [if_neg w7]
    by_cases w5 : w = 5 ∨ (9 ≤ w ∧ w ≤ 12)
    · rw [if_pos w5]
      have hq := hq (hnw.2.mpr (Or.inr w5))
      repeat (first | refine gc_n3 rfl ?_ | refine gc_n6 rfl ?_ | refine gc_n7 rfl ?_ | refine gc_n8 rfl ?_ | refine gc_n9 rfl ?_ | refine gi_con ?_ | refine gi_bip (Nat.le_of_ble_eq_true rfl) ?_ | refine gi_sip (Nat.le_of_ble_eq_true rfl) ?_ | refine gi_ldc ?_ | refine gi_add ?_ | refine gi_inc rfl ?_ | refine gi_sub (by omega) ?_ | refine gi_mul ?_ | refine go_nx rfl ?_)
      refine gf_get _ (nd_c he) (by decide) rfl ?_
      repeat (first | refine gc_n3 rfl ?_ | refine gc_n6 rfl ?_ | refine gc_n7 rfl ?_ | refine gc_n8 rfl ?_ | refine gc_n9 rfl ?_ | refine gi_con ?_ | refine gi_bip (Nat.le_of_ble_eq_true rfl) ?_ | refine gi_sip (Nat.le_of_ble_eq_true rfl) ?_ | refine gi_ldc ?_ | refine gi_add ?_ | refine gi_inc rfl ?_ | refine gi_sub (by omega) ?_ | refine gi_mul ?_ | refine go_nx rfl ?_)
      first | refine gb_lt (by omega) (by omega) (fun c1 => ?_) (fun c1 => ?_) | refine gb_ge (by omega) (by omega) (fun c1 => ?_) (fun c1 => ?_) | refine gb_gt (by omega) (by omega) (fun c1 => ?_) (fun c1 => ?_) | refine gb_le (by omega) (by omega) (fun c1 => ?_) (fun c1 => ?_) | refine gb_eq (by omega) (by omega) (fun c1 => ?_) (fun c1 => ?_) | refine gb_ne (by omega) (by omega) (fun c1 => ?_) (fun c1 => ?_)
      · repeat (first | refine gc_n3 rfl ?_ | refine gc_n6 rfl ?_ | refine gc_n7 rfl ?_ | refine gc_n8 rfl ?_ | refine gc_n9 rfl ?_ | refine gi_con ?_ | refine gi_bip (Nat.le_of_ble_eq_true rfl) ?_ | refine gi_sip (Nat.le_of_ble_eq_true rfl) ?_ | refine gi_ldc ?_ | refine gi_add ?_ | refine gi_inc rfl ?_ | refine gi_sub (by omega) ?_ | refine gi_mul ?_ | refine go_nx rfl ?_)
        refine go_step ?_
        refine g_call (k := 83) rfl (by omega) (Nat.le_of_ble_eq_true rfl) rfl ?_
        refine sp_bcmp (ob := ob) (by omega) hE hw hrow he c1 (by omega) ?_
        intro h' own' b1 b2 b3 b4 b5
        have := hq h' own' b1 b2 (by omega) (by omega) b5
        refine ⟨fun q => ?_, fun R q a cap l' p1 p2 p3 p4 => ?_⟩
        · refine go_jp rfl ?_
          refine go_rt rfl ?_
          exact this.1 q
        · refine go_jp rfl ?_
          refine go_rt rfl ?_
          exact this.2 R q a cap l' p1 p2 p3 p4
      · repeat (first | refine gc_n3 rfl ?_ | refine gc_n6 rfl ?_ | refine gc_n7 rfl ?_ | refine gc_n8 rfl ?_ | refine gc_n9 rfl ?_ | refine gi_con ?_ | refine gi_bip (Nat.le_of_ble_eq_true rfl) ?_ | refine gi_sip (Nat.le_of_ble_eq_true rfl) ?_ | refine gi_ldc ?_ | refine gi_add ?_ | refine gi_inc rfl ?_ | refine gi_sub (by omega) ?_ | refine gi_mul ?_ | refine go_nx rfl ?_)
        refine go_jp rfl ?_
        refine go_rt rfl ?_
        refine (hq h own hw (lFr_r _ _ _) (by omega) (by omega) (Nat.le_refl _)).1 ?_
        unfold q_wb
        rw [if_neg (fun q => w7 (hnw.1.mp q)), if_pos c1]
    · rw [if_neg w5]
      repeat (first | refine gc_n3 rfl ?_ | refine gc_n6 rfl ?_ | refine gc_n7 rfl ?_ | refine gc_n8 rfl ?_ | refine gc_n9 rfl ?_ | refine gi_con ?_ | refine gi_bip (Nat.le_of_ble_eq_true rfl) ?_ | refine gi_sip (Nat.le_of_ble_eq_true rfl) ?_ | refine gi_ldc ?_ | refine gi_add ?_ | refine gi_inc rfl ?_ | refine gi_sub (by omega) ?_ | refine gi_mul ?_ | refine go_nx rfl ?_)
      refine go_rt rfl ?_
      exact hq0 (fun q => (hnw.2.mp q).elim w7 w5)
theorem sp_bcond {e w lev lim k : Nat} (hd : 8 ≤ d) (hE : sE E) (hw : wOk E h own) (hrow : q_row B n) (hO : oIs ob P O) (hc : oCl ob B) (he : ndOk h row B N O n lev lim e) (hww : w ≤ 16) (h7 : w = 7 → B e = 4 ∧ (∀ x ∈ q_box_els B (q_val B e), P x) ∧ (q_box_els B (q_val B e)).length < sT B k e ∧ (q_box_els B (q_val B e)).length ≤ 1000)
    (hq : bOut E h own N O (q_cb ob B w e) (6 + 3 * sT B k e) (63 + 15 * sT B k e) Q) : mm_Go E d 78 (mm_blk 78 0) [.ref (N e), .int (nI w)] [] h Q := by
  refine sp_bcond2 (k := k) hd hE hw hrow hO hc he hww h7 (fun q => ?_) (fun q => ?_)
  · exact (hq h own hw (lFr_r _ _ _) (by omega) (by omega) (Nat.le_refl _)).1 (if_neg q)
  · unfold q_cb at hq
    rw [if_pos q] at hq
    exact hq
theorem sp_addRows {a cap : Nat} {l' : List Nat} {R : List qR} (hd : 7 ≤ d) (hE : sE E) (hw : wOk E h own) (hO : oIs ob P O) (ha : gL E h own a cap l') (hr : bR h N O l' R) (hs : rSd P O R) (hR : R.length ≤ 2000) (hcap : cap ≤ 30000)
    (hq : ∀ h' own' cap' l2, gL E h' own' a cap' l2 → bR h' N O l2 (q_addr R) → wOk E h' own' → lFr h h' own own' (fun b => b = a) → h'.1 ≤ h.1 + 4 → h'.2.1 + 4 * cap ≤ h.2.1 + 12 + 4 * cap' → cap' ≤ max cap (2 * (R.length + 1) + 10) → h.2.1 ≤ h'.2.1 → Q none h') : mm_Go E d 90 (mm_blk 90 0) [.ref a, mm_un] [] h Q := by
  have hl' := hr.1
  have hlt := gL_lt hw.1 ha
  have two : ∀ pl, pl ≤ R.length → (∀ j, j < pl → (R.getD j q_r0).1.1 ≤ 5) → (∀ j, pl ≤ j → j < R.length → 5 < (R.getD j q_r0).1.1) → mm_Go E d 90 (mm_blk 90 2) [.ref a, .int (nI pl)] [] h Q := by
    intro pl hpl p1 p2
    have his := addr_is hpl p1 p2
    repeat (first | refine gc_n3 rfl ?_ | refine gc_n6 rfl ?_ | refine gc_n7 rfl ?_ | refine gc_n8 rfl ?_ | refine gc_n9 rfl ?_ | refine gi_con ?_ | refine gi_bip (Nat.le_of_ble_eq_true rfl) ?_ | refine gi_sip (Nat.le_of_ble_eq_true rfl) ?_ | refine gi_ldc ?_ | refine gi_add ?_ | refine gi_inc rfl ?_ | refine gi_sub (by omega) ?_ | refine gi_mul ?_ | refine go_nx rfl ?_)
    repeat (first | refine gc_n3 rfl ?_ | refine gc_n6 rfl ?_ | refine gc_n7 rfl ?_ | refine gc_n8 rfl ?_ | refine gc_n9 rfl ?_ | refine gi_con ?_ | refine gi_bip (Nat.le_of_ble_eq_true rfl) ?_ | refine gi_sip (Nat.le_of_ble_eq_true rfl) ?_ | refine gi_ldc ?_ | refine gi_add ?_ | refine gi_inc rfl ?_ | refine gi_sub (by omega) ?_ | refine gi_mul ?_ | refine go_nx rfl ?_)
    repeat (first | refine gc_n3 rfl ?_ | refine gc_n6 rfl ?_ | refine gc_n7 rfl ?_ | refine gc_n8 rfl ?_ | refine gc_n9 rfl ?_ | refine gi_con ?_ | refine gi_bip (Nat.le_of_ble_eq_true rfl) ?_ | refine gi_sip (Nat.le_of_ble_eq_true rfl) ?_ | refine gi_ldc ?_ | refine gi_add ?_ | refine gi_inc rfl ?_ | refine gi_sub (by omega) ?_ | refine gi_mul ?_ | refine go_nx rfl ?_)
    refine go_step ?_
    refine g_call (k := 84) rfl (by omega) (Nat.le_of_ble_eq_true rfl) rfl ?_
    refine sp_endC hn_at (by omega) ?_
    rw [hn_set, eC_lo N O]
    repeat (first | refine gc_n3 rfl ?_ | refine gc_n6 rfl ?_ | refine gc_n7 rfl ?_ | refine gc_n8 rfl ?_ | refine gc_n9 rfl ?_ | refine gi_con ?_ | refine gi_bip (Nat.le_of_ble_eq_true rfl) ?_ | refine gi_sip (Nat.le_of_ble_eq_true rfl) ?_ | refine gi_ldc ?_ | refine gi_add ?_ | refine gi_inc rfl ?_ | refine gi_sub (by omega) ?_ | refine gi_mul ?_ | refine go_nx rfl ?_)
    repeat (first | refine gc_n3 rfl ?_ | refine gc_n6 rfl ?_ | refine gc_n7 rfl ?_ | refine gc_n8 rfl ?_ | refine gc_n9 rfl ?_ | refine gi_con ?_ | refine gi_bip (Nat.le_of_ble_eq_true rfl) ?_ | refine gi_sip (Nat.le_of_ble_eq_true rfl) ?_ | refine gi_ldc ?_ | refine gi_add ?_ | refine gi_inc rfl ?_ | refine gi_sub (by omega) ?_ | refine gi_mul ?_ | refine go_nx rfl ?_)
    refine go_step ?_
    refine g_call (k := 84) rfl (by omega) (Nat.le_of_ble_eq_true rfl) rfl ?_
    refine sp_endC hn_at (by omega) ?_
    rw [hn_set, eC_hi N O]
    repeat (first | refine gc_n3 rfl ?_ | refine gc_n6 rfl ?_ | refine gc_n7 rfl ?_ | refine gc_n8 rfl ?_ | refine gc_n9 rfl ?_ | refine gi_con ?_ | refine gi_bip (Nat.le_of_ble_eq_true rfl) ?_ | refine gi_sip (Nat.le_of_ble_eq_true rfl) ?_ | refine gi_ldc ?_ | refine gi_add ?_ | refine gi_inc rfl ?_ | refine gi_sub (by omega) ?_ | refine gi_mul ?_ | refine go_nx rfl ?_)
    refine go_step ?_
    refine g_call (k := 82) rfl (by omega) (Nat.le_of_ble_eq_true rfl) rfl ?_
    have e4 : (mm_new h 2 (.inr (7, [.null, .null]))).1 = h.1 + 1 := rfl
    have e5 : (mm_new (mm_new h 2 (.inr (7, [.null, .null]))) 5 (eCell N O (5, 0, 0, 0))).1 = h.1 + 2 := rfl
    have w4 := wOk_new (n := 2) (c := .inr (7, [.null, .null])) hw
    have w5 := wOk_new (n := 5) (c := eCell N O (5, 0, 0, 0)) w4
    have w6 := wOk_new (n := 5) (c := eCell N O (5, 2, 0, 0)) w5
    rw [e4, e5]
    have cc : (mm_new (mm_new (mm_new h 2 (.inr (7, [.null, .null]))) 5 (eCell N O (5, 0, 0, 0))) 5 (eCell N O (5, 2, 0, 0))).2.2 h.1 = some (.inr (7, [.null, .null])) := by
      rw [hn_ne (by rw [e5]; omega), hn_ne (by rw [e4]; omega)]
      exact hn_at
    refine sp_iinit cc ?_
    have f6 : lFr h (mm_set (mm_new (mm_new (mm_new h 2 (.inr (7, [.null, .null]))) 5 (eCell N O (5, 0, 0, 0))) 5 (eCell N O (5, 2, 0, 0))) h.1 (.inr (7, [.ref (h.1 + 1), .ref (h.1 + 2)]))) own own (fun _ => False) := by
      refine ⟨by show h.1 ≤ h.1 + 1 + 1 + 1; omega, fun b hb => ⟨rfl, fun _ _ => ?_⟩⟩
      rw [hs_ne (by omega), hn_ne (by rw [e5]; omega), hn_ne (by rw [e4]; omega), hn_ne (by omega)]
    have w7 : wOk E (mm_set (mm_new (mm_new (mm_new h 2 (.inr (7, [.null, .null]))) 5 (eCell N O (5, 0, 0, 0))) 5 (eCell N O (5, 2, 0, 0))) h.1 (.inr (7, [.ref (h.1 + 1), .ref (h.1 + 2)]))) own := ⟨hOk_set2 w6.1 cc, w6.2⟩
    have i7 : iAt (mm_set (mm_new (mm_new (mm_new h 2 (.inr (7, [.null, .null]))) 5 (eCell N O (5, 0, 0, 0))) 5 (eCell N O (5, 2, 0, 0))) h.1 (.inr (7, [.ref (h.1 + 1), .ref (h.1 + 2)]))) N O h.1 q_rr := by
      refine ⟨_, _, hs_at, ?_, ?_⟩
      · rw [hs_ne (by omega), hn_ne (by rw [e5]; omega), ← e4]
        exact hn_at
      · rw [hs_ne (by omega), ← e5]
        exact hn_at
    have s7 : (mm_set (mm_new (mm_new (mm_new h 2 (.inr (7, [.null, .null]))) 5 (eCell N O (5, 0, 0, 0))) 5 (eCell N O (5, 2, 0, 0))) h.1 (.inr (7, [.ref (h.1 + 1), .ref (h.1 + 2)]))).1 = h.1 + 3 := rfl
    have t7 : (mm_set (mm_new (mm_new (mm_new h 2 (.inr (7, [.null, .null]))) 5 (eCell N O (5, 0, 0, 0))) 5 (eCell N O (5, 2, 0, 0))) h.1 (.inr (7, [.ref (h.1 + 1), .ref (h.1 + 2)]))).2.1 = h.2.1 + 12 := rfl
    generalize mm_set (mm_new (mm_new (mm_new h 2 (.inr (7, [.null, .null]))) 5 (eCell N O (5, 0, 0, 0))) 5 (eCell N O (5, 2, 0, 0))) h.1 (.inr (7, [.ref (h.1 + 1), .ref (h.1 + 2)])) = h7 at f6 w7 i7 s7 t7 ⊢
    have l7 := gL_fr f6 hw.1 ha id
    have r7 := bR_fr f6 hw.1 hr
    have i8 := i7
    obtain ⟨lo, hh, ic, il, ih⟩ := i8
    refine go_step ?_
    refine g_callV (by decide) (by decide) (Nat.le_of_ble_eq_true rfl) (Nat.le_of_ble_eq_true rfl) (gL_rcv l7) (by omega) (Nat.le_of_ble_eq_true rfl) rfl ?_
    refine sp_laddAt (by omega) hE w7 l7 ic (by decide) (by omega) (by omega) (fun h8 own8 cap8 q1 q2 q3 q4 q5 q6 q7 => ?_)
    repeat (first | refine gc_n3 rfl ?_ | refine gc_n6 rfl ?_ | refine gc_n7 rfl ?_ | refine gc_n8 rfl ?_ | refine gc_n9 rfl ?_ | refine gi_con ?_ | refine gi_bip (Nat.le_of_ble_eq_true rfl) ?_ | refine gi_sip (Nat.le_of_ble_eq_true rfl) ?_ | refine gi_ldc ?_ | refine gi_add ?_ | refine gi_inc rfl ?_ | refine gi_sub (by omega) ?_ | refine gi_mul ?_ | refine go_nx rfl ?_)
    refine go_rt rfl ?_
    rw [hl'] at q6
    refine hq h8 own8 cap8 _ q1 ?_ q2 (lFr_tm (lFr_m f6 hw.2 (fun b _ q => q.elim)) q3 hw.2 (fun b hb q => q)) (by omega) (by omega) q6 (by omega)
    rw [his]
    exact bR_fr q3 w7.1 (bR_at r7 hpl i7)
  have mono : ∀ i j, i ≤ j → j < R.length → (R.getD i q_r0).1.1 ≤ (R.getD j q_r0).1.1 := by
    intro i j hij hj
    by_cases e : i = j
    · rw [e]; exact Nat.le_refl _
    · exact sd_cls hO (hs.1 _ (getD_mem (x := q_r0) (by omega))) (hs.1 _ (getD_mem (x := q_r0) hj)) (pw_getD (x := q_r0) hs.2 (by omega) hj)
  have one : ∀ pl, pl ≤ R.length → (∀ j, pl ≤ j → j < R.length → 5 < (R.getD j q_r0).1.1) → mm_Go E d 90 (mm_blk 90 1) [.ref a, .int (nI pl)] [] h Q := by
    intro pl
    induction pl with
    | zero =>
      intro hpl p1
      repeat (first | refine gc_n3 rfl ?_ | refine gc_n6 rfl ?_ | refine gc_n7 rfl ?_ | refine gc_n8 rfl ?_ | refine gc_n9 rfl ?_ | refine gi_con ?_ | refine gi_bip (Nat.le_of_ble_eq_true rfl) ?_ | refine gi_sip (Nat.le_of_ble_eq_true rfl) ?_ | refine gi_ldc ?_ | refine gi_add ?_ | refine gi_inc rfl ?_ | refine gi_sub (by omega) ?_ | refine gi_mul ?_ | refine go_nx rfl ?_)
      first | refine gz_eq (by omega) (fun c5 => ?_) (fun c5 => ?_) | refine gz_ne (by omega) (fun c5 => ?_) (fun c5 => ?_) | refine gz_le (by omega) (fun c5 => ?_) (fun c5 => ?_) | refine gz_gt (by omega) (fun c5 => ?_) (fun c5 => ?_) | refine gz_lt (by omega) (fun c5 => ?_) (fun c5 => ?_) | refine gz_ge (by omega) (fun c5 => ?_) (fun c5 => ?_)
      · exact two 0 hpl (fun j hj => absurd hj (Nat.not_lt_zero _)) p1
      · omega
    | succ pl ihp =>
      intro hpl p1
      obtain ⟨lo, hi, q1, q2, q3⟩ := hr.2 pl (by omega)
      have ok := hs.1 _ (getD_mem (x := q_r0) (show pl < R.length by omega))
      have ok6 := ok.1.1
      have q2' : h.2.2 lo = some (.inr (6, [.int (nI (R.getD pl q_r0).1.1), if (R.getD pl q_r0).1.2.1 = 1 then .ref (N (R.getD pl q_r0).1.2.2.2) else .null, .int (nI (R.getD pl q_r0).1.2.2.1), .int (nI (eLo O (R.getD pl q_r0).1)), .int (nI (eHi O (R.getD pl q_r0).1))])) := q2
      repeat (first | refine gc_n3 rfl ?_ | refine gc_n6 rfl ?_ | refine gc_n7 rfl ?_ | refine gc_n8 rfl ?_ | refine gc_n9 rfl ?_ | refine gi_con ?_ | refine gi_bip (Nat.le_of_ble_eq_true rfl) ?_ | refine gi_sip (Nat.le_of_ble_eq_true rfl) ?_ | refine gi_ldc ?_ | refine gi_add ?_ | refine gi_inc rfl ?_ | refine gi_sub (by omega) ?_ | refine gi_mul ?_ | refine go_nx rfl ?_)
      first | refine gz_eq (by omega) (fun c5 => ?_) (fun c5 => ?_) | refine gz_ne (by omega) (fun c5 => ?_) (fun c5 => ?_) | refine gz_le (by omega) (fun c5 => ?_) (fun c5 => ?_) | refine gz_gt (by omega) (fun c5 => ?_) (fun c5 => ?_) | refine gz_lt (by omega) (fun c5 => ?_) (fun c5 => ?_) | refine gz_ge (by omega) (fun c5 => ?_) (fun c5 => ?_)
      · omega
      repeat (first | refine gc_n3 rfl ?_ | refine gc_n6 rfl ?_ | refine gc_n7 rfl ?_ | refine gc_n8 rfl ?_ | refine gc_n9 rfl ?_ | refine gi_con ?_ | refine gi_bip (Nat.le_of_ble_eq_true rfl) ?_ | refine gi_sip (Nat.le_of_ble_eq_true rfl) ?_ | refine gi_ldc ?_ | refine gi_add ?_ | refine gi_inc rfl ?_ | refine gi_sub (by omega) ?_ | refine gi_mul ?_ | refine go_nx rfl ?_)
      rw [show pl + 1 - 1 = pl from rfl]
      refine go_step ?_
      refine g_callV (by decide) (by decide) (Nat.le_of_ble_eq_true rfl) (Nat.le_of_ble_eq_true rfl) (gL_rcv ha) (by omega) (Nat.le_of_ble_eq_true rfl) rfl ?_
      refine sp_lget (by omega) ha (by omega) ?_
      refine gc_cast0 q1 rfl rfl ?_
      refine gf_get _ q1 (by decide) rfl ?_
      refine gf_get _ q2' (by decide) rfl ?_
      repeat (first | refine gc_n3 rfl ?_ | refine gc_n6 rfl ?_ | refine gc_n7 rfl ?_ | refine gc_n8 rfl ?_ | refine gc_n9 rfl ?_ | refine gi_con ?_ | refine gi_bip (Nat.le_of_ble_eq_true rfl) ?_ | refine gi_sip (Nat.le_of_ble_eq_true rfl) ?_ | refine gi_ldc ?_ | refine gi_add ?_ | refine gi_inc rfl ?_ | refine gi_sub (by omega) ?_ | refine gi_mul ?_ | refine go_nx rfl ?_)
      first | refine gb_lt (by omega) (by omega) (fun c6 => ?_) (fun c6 => ?_) | refine gb_ge (by omega) (by omega) (fun c6 => ?_) (fun c6 => ?_) | refine gb_gt (by omega) (by omega) (fun c6 => ?_) (fun c6 => ?_) | refine gb_le (by omega) (by omega) (fun c6 => ?_) (fun c6 => ?_) | refine gb_eq (by omega) (by omega) (fun c6 => ?_) (fun c6 => ?_) | refine gb_ne (by omega) (by omega) (fun c6 => ?_) (fun c6 => ?_)
      · exact two (pl + 1) hpl (fun j hj => Nat.le_trans (mono j pl (by omega) (by omega)) c6) p1
      · refine go_nx rfl ?_
        rw [nI_dec (by omega), Nat.add_sub_cancel]
        refine go_jp rfl ?_
        refine ihp (by omega) (fun j j1 j2 => ?_)
        by_cases ej : j = pl
        · rw [ej]; omega
        · exact p1 j (by omega) j2
  repeat (first | refine gc_n3 rfl ?_ | refine gc_n6 rfl ?_ | refine gc_n7 rfl ?_ | refine gc_n8 rfl ?_ | refine gc_n9 rfl ?_ | refine gi_con ?_ | refine gi_bip (Nat.le_of_ble_eq_true rfl) ?_ | refine gi_sip (Nat.le_of_ble_eq_true rfl) ?_ | refine gi_ldc ?_ | refine gi_add ?_ | refine gi_inc rfl ?_ | refine gi_sub (by omega) ?_ | refine gi_mul ?_ | refine go_nx rfl ?_)
  refine go_step ?_
  refine g_callV (by decide) (by decide) (Nat.le_of_ble_eq_true rfl) (Nat.le_of_ble_eq_true rfl) (gL_rcv ha) (by omega) (Nat.le_of_ble_eq_true rfl) rfl ?_
  refine sp_lsize ha ?_
  rw [hl']
  repeat (first | refine gc_n3 rfl ?_ | refine gc_n6 rfl ?_ | refine gc_n7 rfl ?_ | refine gc_n8 rfl ?_ | refine gc_n9 rfl ?_ | refine gi_con ?_ | refine gi_bip (Nat.le_of_ble_eq_true rfl) ?_ | refine gi_sip (Nat.le_of_ble_eq_true rfl) ?_ | refine gi_ldc ?_ | refine gi_add ?_ | refine gi_inc rfl ?_ | refine gi_sub (by omega) ?_ | refine gi_mul ?_ | refine go_nx rfl ?_)
  refine go_jp rfl ?_
  exact one R.length (Nat.le_refl _) (fun j j1 j2 => by omega)
end C
