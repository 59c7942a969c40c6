/-! THE CLASS: ofElem -/
theorem wstep_cb (ob : Nat → Nat → Int32) (B : Nat → Nat) (st : Option (List qR)) (f : Nat) : q_wstep ob B st f = q_join2 ob st (q_cb ob B (q_word B f) f) := by
  unfold q_wstep q_cb
  split
  · rfl
  · cases st <;> rfl
section C
variable {E : mmE} {d : Nat} {h h' : mmH} {Q : Option Value → mmH → Prop} {B N O : Nat → Nat} {row n : Nat} {own own' : Nat → Nat} {M : Nat → Prop} {ob : Nat → Nat → Int32} {P : Nat → Prop}
theorem sp_belem {e S cs lev lim k : Nat} {lsp : List Nat} (hd : 10 ≤ d) (hE : sE E) (hw : wOk E h own) (hrow : q_row B n) (hO : oIs ob P O) (hc : oCl ob B) (he : ndOk h row B N O n lev lim e) (hs : gL E h own S cs lsp) (hcs : cs ≤ 8000)
    (hin : q_ofi B e = true → ∀ x ∈ q_box_els B (q_val B e), P x ∧ (q_nof (q_word B x) = 2 → B x = 4 ∧ 1 ≤ k ∧ (∀ y ∈ q_box_els B (q_val B x), P y) ∧ (q_box_els B (q_val B x)).length < sT B k x)) (hT : q_ofi B e = true → ((q_box_els B (q_val B e)).map (sT B k)).sum ≤ 998)
    (hq0 : q_ofi B e = false → Q (some .null) h)
    (hq : q_ofi B e = true → ∀ h' own' cs' lsp', wOk E h' own' → lFr h h' own own' (fun b => b = S) → gL E h' own' S cs' lsp' → 5 * h'.1 + cs ≤ 5 * h.1 + cs' + 30 * (q_box_els B (q_val B e)).length + 27 * ((q_box_els B (q_val B e)).map (sT B k)).sum + 30 → h'.2.1 + 4 * cs ≤ h.2.1 + 4 * cs' + 63 * (q_box_els B (q_val B e)).length + 27 * ((q_box_els B (q_val B e)).map (sT B k)).sum + 60 → cs ≤ cs' → cs' ≤ max cs (2 * ((q_box_els B (q_val B e)).map (sT B k)).sum + 10) → h.2.1 ≤ h'.2.1 → (q_we ob B e = none → Q (some .null) h') ∧ ∀ R, q_we ob B e = some R → ∀ a cap l', h.1 ≤ a → gL E h' own' a cap l' → bR h' N O l' R → cap ≤ 2 * ((q_box_els B (q_val B e)).map (sT B k)).sum + 12 → Q (some (.ref a)) h') : mm_Go E d 85 (mm_blk 85 0) [.ref (N e), .ref S, mm_un, mm_un, mm_un] [] h Q := by
  have hSlt := gL_lt hw.1 hs
  repeat (first | refine gc_n3 rfl ?_ | refine gc_n6 rfl ?_ | refine gc_n7 rfl ?_ | refine gc_n8 rfl ?_ | refine gc_n9 rfl ?_ | refine gi_con ?_ | refine gi_bip (Nat.le_of_ble_eq_true rfl) ?_ | refine gi_sip (Nat.le_of_ble_eq_true rfl) ?_ | refine gi_ldc ?_ | refine gi_add ?_ | refine gi_inc rfl ?_ | refine gi_sub (by omega) ?_ | refine gi_mul ?_ | refine go_nx rfl ?_)
  refine go_step ?_
  refine g_callV (by decide) (by decide) (Nat.le_of_ble_eq_true rfl) (Nat.le_of_ble_eq_true rfl) (o_rcv (nd_c he) rfl (by decide)) (by omega) (Nat.le_of_ble_eq_true rfl) rfl ?_
  by_cases h34 : B e = 3 ∨ B e = 4
  rotate_left
  · have hof : q_ofi B e = false := by
      cases ho : q_ofi B e with
      | false => rfl
      | true => exact absurd (Or.inl (ofi_3 ho)) h34
    refine sp_ofitem (u := q_u8 B) (stop := 0) (rw_ := false) (by omega) he.1 hrow (fun q => absurd q h34) (Nat.zero_le _) ?_
    rw [hof]
    refine gt_ne (fun c1 => ?_) (fun c1 => ?_)
    · cases c1
    repeat (first | refine gc_n3 rfl ?_ | refine gc_n6 rfl ?_ | refine gc_n7 rfl ?_ | refine gc_n8 rfl ?_ | refine gc_n9 rfl ?_ | refine gi_con ?_ | refine gi_bip (Nat.le_of_ble_eq_true rfl) ?_ | refine gi_sip (Nat.le_of_ble_eq_true rfl) ?_ | refine gi_ldc ?_ | refine gi_add ?_ | refine gi_inc rfl ?_ | refine gi_sub (by omega) ?_ | refine gi_mul ?_ | refine go_nx rfl ?_)
    refine go_rt rfl ?_
    exact hq0 hof
  obtain ⟨s0, r0, hs0, hb0⟩ := he.2 h34
  refine sp_ofitem (u := q_u8 B) (by omega) he.1 hrow (fun _ => hb0) hs0 ?_
  refine gt_ne (fun c1 => ?_) (fun c1 => ?_)
  rotate_left
  · repeat (first | refine gc_n3 rfl ?_ | refine gc_n6 rfl ?_ | refine gc_n7 rfl ?_ | refine gc_n8 rfl ?_ | refine gc_n9 rfl ?_ | refine gi_con ?_ | refine gi_bip (Nat.le_of_ble_eq_true rfl) ?_ | refine gi_sip (Nat.le_of_ble_eq_true rfl) ?_ | refine gi_ldc ?_ | refine gi_add ?_ | refine gi_inc rfl ?_ | refine gi_sub (by omega) ?_ | refine gi_mul ?_ | refine go_nx rfl ?_)
    refine go_rt rfl ?_
    exact hq0 c1
  have hin := hin c1
  have hT := hT c1
  have hq := hq c1
  obtain ⟨hnd, hchn, hfi⟩ := nd_sub hrow he h34
  have hwe : q_we ob B e = ((q_box_els B (q_val B e)).foldl (q_wstep ob B) none).map q_addr := rfl
  rw [hwe] at hq
  clear hwe
  generalize hels : q_box_els B (q_val B e) = els at *
  have loop : ∀ (L : List Nat) (dn wd : Nat) (st : Option (List qR)) (H : mmH) (own' : Nat → Nat) (csH ca : Nat) (lspH : List Nat) (allv x4 : Value), dn + L.length = els.length → wd + (L.map (sT B k)).sum = (els.map (sT B k)).sum → (∀ x ∈ L, x ∈ els) → chn B N (q_last B (q_val B e)) L → els.foldl (q_wstep ob B) none = L.foldl (q_wstep ob B) st → (∀ R, st = some R → rSd P O R ∧ (∀ r ∈ R, r.1.1 ≠ 5) ∧ R.length ≤ wd) → (st = none → allv = .null ∧ ca = 0) → (∀ R, st = some R → ∃ a la, allv = .ref a ∧ h.1 ≤ a ∧ gL E H own' a ca la ∧ bR H N O la R) → gL E H own' S csH lspH → wOk E H own' → lFr h H own own' (fun b => b = S) → 5 * H.1 + cs ≤ 5 * h.1 + ca + csH + 30 * dn + 25 * wd → H.2.1 + 4 * cs ≤ h.2.1 + 4 * ca + 4 * csH + 63 * dn + 19 * wd → ca ≤ 2 * wd + 10 → cs ≤ csH → csH ≤ max cs (2 * wd + 10) → h.2.1 ≤ H.2.1 → mm_Go E d 85 (mm_blk 85 2) [.ref (N e), .ref S, allv, ptr N L, x4] [] H Q := by
    intro L
    induction L with
    | nil =>
      intro dn wd st H own' csH ca lspH allv x4 hdn hwd hL hch hst hsd hv0 hv1 hS g3 g4 g5 g6 g7 g8 g9 g10
      have hdn : dn = els.length := hdn
      have hwd : wd = (els.map (sT B k)).sum := hwd
      have hst : els.foldl (q_wstep ob B) none = st := hst
      rw [hst] at hq
      repeat (first | refine gc_n3 rfl ?_ | refine gc_n6 rfl ?_ | refine gc_n7 rfl ?_ | refine gc_n8 rfl ?_ | refine gc_n9 rfl ?_ | refine gi_con ?_ | refine gi_bip (Nat.le_of_ble_eq_true rfl) ?_ | refine gi_sip (Nat.le_of_ble_eq_true rfl) ?_ | refine gi_ldc ?_ | refine gi_add ?_ | refine gi_inc rfl ?_ | refine gi_sub (by omega) ?_ | refine gi_mul ?_ | refine go_nx rfl ?_)
      refine gn_nN ?_
      cases st with
      | none =>
        obtain ⟨this, hca0⟩ := hv0 rfl
        subst this
        repeat (first | refine gc_n3 rfl ?_ | refine gc_n6 rfl ?_ | refine gc_n7 rfl ?_ | refine gc_n8 rfl ?_ | refine gc_n9 rfl ?_ | refine gi_con ?_ | refine gi_bip (Nat.le_of_ble_eq_true rfl) ?_ | refine gi_sip (Nat.le_of_ble_eq_true rfl) ?_ | refine gi_ldc ?_ | refine gi_add ?_ | refine gi_inc rfl ?_ | refine gi_sub (by omega) ?_ | refine gi_mul ?_ | refine go_nx rfl ?_)
        refine gn_nN ?_
        repeat (first | refine gc_n3 rfl ?_ | refine gc_n6 rfl ?_ | refine gc_n7 rfl ?_ | refine gc_n8 rfl ?_ | refine gc_n9 rfl ?_ | refine gi_con ?_ | refine gi_bip (Nat.le_of_ble_eq_true rfl) ?_ | refine gi_sip (Nat.le_of_ble_eq_true rfl) ?_ | refine gi_ldc ?_ | refine gi_add ?_ | refine gi_inc rfl ?_ | refine gi_sub (by omega) ?_ | refine gi_mul ?_ | refine go_nx rfl ?_)
        refine go_rt rfl ?_
        exact (hq H own' csH lspH g3 g4 hS (by omega) (by omega) g8 (by omega) g10).1 rfl
      | some R =>
        obtain ⟨a, la, e1, e2, e3, e4⟩ := hv1 R rfl
        subst e1
        obtain ⟨s1, s2, s3⟩ := hsd R rfl
        have haS : a ≠ S := Nat.ne_of_gt (Nat.lt_of_lt_of_le hSlt e2)
        repeat (first | refine gc_n3 rfl ?_ | refine gc_n6 rfl ?_ | refine gc_n7 rfl ?_ | refine gc_n8 rfl ?_ | refine gc_n9 rfl ?_ | refine gi_con ?_ | refine gi_bip (Nat.le_of_ble_eq_true rfl) ?_ | refine gi_sip (Nat.le_of_ble_eq_true rfl) ?_ | refine gi_ldc ?_ | refine gi_add ?_ | refine gi_inc rfl ?_ | refine gi_sub (by omega) ?_ | refine gi_mul ?_ | refine go_nx rfl ?_)
        refine gn_nR ?_
        repeat (first | refine gc_n3 rfl ?_ | refine gc_n6 rfl ?_ | refine gc_n7 rfl ?_ | refine gc_n8 rfl ?_ | refine gc_n9 rfl ?_ | refine gi_con ?_ | refine gi_bip (Nat.le_of_ble_eq_true rfl) ?_ | refine gi_sip (Nat.le_of_ble_eq_true rfl) ?_ | refine gi_ldc ?_ | refine gi_add ?_ | refine gi_inc rfl ?_ | refine gi_sub (by omega) ?_ | refine gi_mul ?_ | refine go_nx rfl ?_)
        refine go_step ?_
        refine g_call (k := 90) rfl (by omega) (Nat.le_of_ble_eq_true rfl) rfl ?_
        refine sp_addRows (by omega) hE g3 hO e3 e4 s1 (by omega) (by omega) (fun h2 own2 ca2 l2 q1 q2 q3 q4 q5 q6 q7 q8 => ?_)
        repeat (first | refine gc_n3 rfl ?_ | refine gc_n6 rfl ?_ | refine gc_n7 rfl ?_ | refine gc_n8 rfl ?_ | refine gc_n9 rfl ?_ | refine gi_con ?_ | refine gi_bip (Nat.le_of_ble_eq_true rfl) ?_ | refine gi_sip (Nat.le_of_ble_eq_true rfl) ?_ | refine gi_ldc ?_ | refine gi_add ?_ | refine gi_inc rfl ?_ | refine gi_sub (by omega) ?_ | refine gi_mul ?_ | refine go_nx rfl ?_)
        refine go_jp rfl ?_
        repeat (first | refine gc_n3 rfl ?_ | refine gc_n6 rfl ?_ | refine gc_n7 rfl ?_ | refine gc_n8 rfl ?_ | refine gc_n9 rfl ?_ | refine gi_con ?_ | refine gi_bip (Nat.le_of_ble_eq_true rfl) ?_ | refine gi_sip (Nat.le_of_ble_eq_true rfl) ?_ | refine gi_ldc ?_ | refine gi_add ?_ | refine gi_inc rfl ?_ | refine gi_sub (by omega) ?_ | refine gi_mul ?_ | refine go_nx rfl ?_)
        refine go_rt rfl ?_
        have hS2 := gL_fr q4 g3.1 hS (Ne.symm haS)
        have fr2 : lFr h h2 own own2 (fun b => b = S) := lFr_tm g4 q4 hw.2 (fun b hb q => by omega)
        exact (hq h2 own2 csH lspH q3 fr2 hS2 (by omega) (by omega) g8 (by omega) (by omega)).2 (q_addr R) rfl a ca2 l2 e2 q1 q2 (by omega)
    | cons x L ih =>
      intro dn wd st H own' csH ca lspH allv x4 hdn hwd hL hch hst hsd hv0 hv1 hS g3 g4 g5 g6 g7 g8 g9 g10
      rw [List.length_cons] at hdn
      rw [List.map_cons, List.sum_cons] at hwd
      rw [List.foldl_cons] at hst
      have hxe := hL x List.mem_cons_self
      have hx := nd_fr g4 hw.1 (hnd x hxe)
      obtain ⟨hPx, hx2⟩ := hin x hxe
      have hxw := q_word_le B x
      have hsd2 := we_pre (k := k) hO hc [x] st wd (fun y hy => by
        rw [List.mem_singleton.mp hy]
        exact ⟨hPx, fun q => ⟨Or.inr (hx2 q).1, (hx2 q).2.1, (hx2 q).2.2.1⟩⟩) hsd
      have hsd2 : ∀ l, q_wstep ob B st x = some l → rSd P O l ∧ (∀ r ∈ l, r.1.1 ≠ 5) ∧ l.length ≤ wd + (sT B k x + 0) := hsd2
      rw [wstep_cb] at hst hsd2
      have hcb : ∀ l, q_cb ob B (q_word B x) x = some l → rSd P O l ∧ l.length ≤ sT B k x := by
        intro l q
        unfold q_cb at q
        split at q
        · exact ⟨(wb_sd hO hc hPx (fun z => (hx2 z).2.2.1) q).1, wb_len (fun z => ⟨Or.inr (hx2 z).1, (hx2 z).2.1⟩) q⟩
        · cases q
      have nof2 : q_word B x = 7 → q_nof (q_word B x) = 2 := fun q => by rw [q]; rfl
      repeat (first | refine gc_n3 rfl ?_ | refine gc_n6 rfl ?_ | refine gc_n7 rfl ?_ | refine gc_n8 rfl ?_ | refine gc_n9 rfl ?_ | refine gi_con ?_ | refine gi_bip (Nat.le_of_ble_eq_true rfl) ?_ | refine gi_sip (Nat.le_of_ble_eq_true rfl) ?_ | refine gi_ldc ?_ | refine gi_add ?_ | refine gi_inc rfl ?_ | refine gi_sub (by omega) ?_ | refine gi_mul ?_ | refine go_nx rfl ?_)
      refine gn_nR ?_
      repeat (first | refine gc_n3 rfl ?_ | refine gc_n6 rfl ?_ | refine gc_n7 rfl ?_ | refine gc_n8 rfl ?_ | refine gc_n9 rfl ?_ | refine gi_con ?_ | refine gi_bip (Nat.le_of_ble_eq_true rfl) ?_ | refine gi_sip (Nat.le_of_ble_eq_true rfl) ?_ | refine gi_ldc ?_ | refine gi_add ?_ | refine gi_inc rfl ?_ | refine gi_sub (by omega) ?_ | refine gi_mul ?_ | refine go_nx rfl ?_)
      refine gf_get _ (nd_c hx) (by decide) rfl ?_
      refine go_step ?_
      refine g_call (k := 78) rfl (by omega) (Nat.le_of_ble_eq_true rfl) rfl ?_
      refine sp_bcond (k := k) (by omega) hE g3 hrow hO hc hx hxw (fun q => ?_) ?_
      · obtain ⟨z1, z2, z3, z4⟩ := hx2 (nof2 q)
        exact ⟨z1, z3, z4, by omega⟩
      intro h2 own2 b1 b2 b3 b4 b5
      have hx3 := nd_fr b2 g3.1 hx
      have hS2 := gL_fr b2 g3.1 hS id
      have fr2 : lFr h h2 own own2 (fun b => b = S) := lFr_tm g4 b2 hw.2 (fun b hb q => q.elim)
      have back : ∀ (st2 : Option (List qR)) (H : mmH) (own' : Nat → Nat) (csH ca : Nat) (lspH : List Nat) (allv x4 : Value), (allv = .null ∨ ∃ a, allv = .ref a) → st2 = q_join2 ob st (q_cb ob B (q_word B x) x) → (st2 = none → allv = .null ∧ ca = 0) → (∀ R, st2 = some R → ∃ a la, allv = .ref a ∧ h.1 ≤ a ∧ gL E H own' a ca la ∧ bR H N O la R) → gL E H own' S csH lspH → wOk E H own' → lFr h H own own' (fun b => b = S) → 5 * H.1 + cs ≤ 5 * h.1 + ca + csH + 30 * (dn + 1) + 25 * (wd + sT B k x) → H.2.1 + 4 * cs ≤ h.2.1 + 4 * ca + 4 * csH + 63 * (dn + 1) + 19 * (wd + sT B k x) → ca ≤ 2 * (wd + sT B k x) + 10 → cs ≤ csH → csH ≤ max cs (2 * (wd + sT B k x) + 10) → h.2.1 ≤ H.2.1 → mm_Go E d 85 (mm_blk 85 4) [.ref (N e), .ref S, allv, .ref (N x), x4] [] H Q := by
        intro st2 H own' csH ca lspH allv x4 hav e2 v0 v1 t1 t2 t3 t4 t5 t6 t7 t8 t9
        have hx4 := nd_fr t3 hw.1 (hnd x hxe)
        rw [← e2] at hst hsd2
        repeat (first | refine gc_n3 rfl ?_ | refine gc_n6 rfl ?_ | refine gc_n7 rfl ?_ | refine gc_n8 rfl ?_ | refine gc_n9 rfl ?_ | refine gi_con ?_ | refine gi_bip (Nat.le_of_ble_eq_true rfl) ?_ | refine gi_sip (Nat.le_of_ble_eq_true rfl) ?_ | refine gi_ldc ?_ | refine gi_add ?_ | refine gi_inc rfl ?_ | refine gi_sub (by omega) ?_ | refine gi_mul ?_ | refine go_nx rfl ?_)
        refine gf_get _ (nd_c hx4) (by decide) rfl ?_
        rw [hch.1]
        have go : mm_Go E d 85 (mm_blk 85 2) [.ref (N e), .ref S, allv, ptr N L, x4] [] H Q := ih (dn + 1) (wd + sT B k x) st2 H own' csH ca lspH allv x4 (by omega) (by omega) (fun y hy => hL y (List.mem_cons_of_mem x hy)) hch.2 hst (fun R q => hsd2 R q) v0 v1 t1 t2 t3 t4 t5 t6 t7 t8 t9
        rcases hav with q | ⟨a, q⟩
        · subst q
          rcases ptr_two N L with z | ⟨z, z'⟩
          · rw [z] at go ⊢
            repeat (first | refine gc_n3 rfl ?_ | refine gc_n6 rfl ?_ | refine gc_n7 rfl ?_ | refine gc_n8 rfl ?_ | refine gc_n9 rfl ?_ | refine gi_con ?_ | refine gi_bip (Nat.le_of_ble_eq_true rfl) ?_ | refine gi_sip (Nat.le_of_ble_eq_true rfl) ?_ | refine gi_ldc ?_ | refine gi_add ?_ | refine gi_inc rfl ?_ | refine gi_sub (by omega) ?_ | refine gi_mul ?_ | refine go_nx rfl ?_)
            refine go_jp rfl ?_
            exact go
          · rw [z'] at go ⊢
            repeat (first | refine gc_n3 rfl ?_ | refine gc_n6 rfl ?_ | refine gc_n7 rfl ?_ | refine gc_n8 rfl ?_ | refine gc_n9 rfl ?_ | refine gi_con ?_ | refine gi_bip (Nat.le_of_ble_eq_true rfl) ?_ | refine gi_sip (Nat.le_of_ble_eq_true rfl) ?_ | refine gi_ldc ?_ | refine gi_add ?_ | refine gi_inc rfl ?_ | refine gi_sub (by omega) ?_ | refine gi_mul ?_ | refine go_nx rfl ?_)
            refine go_jp rfl ?_
            exact go
        · subst q
          rcases ptr_two N L with z | ⟨z, z'⟩
          · rw [z] at go ⊢
            repeat (first | refine gc_n3 rfl ?_ | refine gc_n6 rfl ?_ | refine gc_n7 rfl ?_ | refine gc_n8 rfl ?_ | refine gc_n9 rfl ?_ | refine gi_con ?_ | refine gi_bip (Nat.le_of_ble_eq_true rfl) ?_ | refine gi_sip (Nat.le_of_ble_eq_true rfl) ?_ | refine gi_ldc ?_ | refine gi_add ?_ | refine gi_inc rfl ?_ | refine gi_sub (by omega) ?_ | refine gi_mul ?_ | refine go_nx rfl ?_)
            refine go_jp rfl ?_
            exact go
          · rw [z'] at go ⊢
            repeat (first | refine gc_n3 rfl ?_ | refine gc_n6 rfl ?_ | refine gc_n7 rfl ?_ | refine gc_n8 rfl ?_ | refine gc_n9 rfl ?_ | refine gi_con ?_ | refine gi_bip (Nat.le_of_ble_eq_true rfl) ?_ | refine gi_sip (Nat.le_of_ble_eq_true rfl) ?_ | refine gi_ldc ?_ | refine gi_add ?_ | refine gi_inc rfl ?_ | refine gi_sub (by omega) ?_ | refine gi_mul ?_ | refine go_nx rfl ?_)
            refine go_jp rfl ?_
            exact go
      refine ⟨fun hnone => ?_, fun R' hsome b cap l' p1 p2 p3 p4 => ?_⟩
      · cases st with
        | none =>
          obtain ⟨this, hca0⟩ := hv0 rfl
          subst this
          repeat (first | refine gc_n3 rfl ?_ | refine gc_n6 rfl ?_ | refine gc_n7 rfl ?_ | refine gc_n8 rfl ?_ | refine gc_n9 rfl ?_ | refine gi_con ?_ | refine gi_bip (Nat.le_of_ble_eq_true rfl) ?_ | refine gi_sip (Nat.le_of_ble_eq_true rfl) ?_ | refine gi_ldc ?_ | refine gi_add ?_ | refine gi_inc rfl ?_ | refine gi_sub (by omega) ?_ | refine gi_mul ?_ | refine go_nx rfl ?_)
          refine gn_nnN ?_
          repeat (first | refine gc_n3 rfl ?_ | refine gc_n6 rfl ?_ | refine gc_n7 rfl ?_ | refine gc_n8 rfl ?_ | refine gc_n9 rfl ?_ | refine gi_con ?_ | refine gi_bip (Nat.le_of_ble_eq_true rfl) ?_ | refine gi_sip (Nat.le_of_ble_eq_true rfl) ?_ | refine gi_ldc ?_ | refine gi_add ?_ | refine gi_inc rfl ?_ | refine gi_sub (by omega) ?_ | refine gi_mul ?_ | refine go_nx rfl ?_)
          refine go_jp rfl ?_
          exact back none h2 own2 csH 0 lspH .null .null (Or.inl rfl) (by rw [hnone]; rfl) (fun _ => ⟨rfl, rfl⟩) (fun R q => by cases q) hS2 b1 fr2 (by omega) (by omega) (by omega) g8 (by omega) (by omega)
        | some R =>
          obtain ⟨a, la, e1, e2, e3, e4⟩ := hv1 R rfl
          subst e1
          repeat (first | refine gc_n3 rfl ?_ | refine gc_n6 rfl ?_ | refine gc_n7 rfl ?_ | refine gc_n8 rfl ?_ | refine gc_n9 rfl ?_ | refine gi_con ?_ | refine gi_bip (Nat.le_of_ble_eq_true rfl) ?_ | refine gi_sip (Nat.le_of_ble_eq_true rfl) ?_ | refine gi_ldc ?_ | refine gi_add ?_ | refine gi_inc rfl ?_ | refine gi_sub (by omega) ?_ | refine gi_mul ?_ | refine go_nx rfl ?_)
          refine gn_nnR ?_
          repeat (first | refine gc_n3 rfl ?_ | refine gc_n6 rfl ?_ | refine gc_n7 rfl ?_ | refine gc_n8 rfl ?_ | refine gc_n9 rfl ?_ | refine gi_con ?_ | refine gi_bip (Nat.le_of_ble_eq_true rfl) ?_ | refine gi_sip (Nat.le_of_ble_eq_true rfl) ?_ | refine gi_ldc ?_ | refine gi_add ?_ | refine gi_inc rfl ?_ | refine gi_sub (by omega) ?_ | refine gi_mul ?_ | refine go_nx rfl ?_)
          refine gn_nN ?_
          exact back (some R) h2 own2 csH ca lspH (.ref a) .null (Or.inr ⟨a, rfl⟩) (by rw [hnone]; rfl) (fun q => by cases q) (fun R2 q => by cases q; exact ⟨a, la, rfl, e2, gL_fr b2 g3.1 e3 id, bR_fr b2 g3.1 e4⟩) hS2 b1 fr2 (by omega) (by omega) (by omega) g8 (by omega) (by omega)
      · obtain ⟨y1, y2⟩ := hcb R' hsome
        have hHh := g4.1
        cases st with
        | none =>
          obtain ⟨this, hca0⟩ := hv0 rfl
          subst this
          repeat (first | refine gc_n3 rfl ?_ | refine gc_n6 rfl ?_ | refine gc_n7 rfl ?_ | refine gc_n8 rfl ?_ | refine gc_n9 rfl ?_ | refine gi_con ?_ | refine gi_bip (Nat.le_of_ble_eq_true rfl) ?_ | refine gi_sip (Nat.le_of_ble_eq_true rfl) ?_ | refine gi_ldc ?_ | refine gi_add ?_ | refine gi_inc rfl ?_ | refine gi_sub (by omega) ?_ | refine gi_mul ?_ | refine go_nx rfl ?_)
          refine gn_nnN ?_
          repeat (first | refine gc_n3 rfl ?_ | refine gc_n6 rfl ?_ | refine gc_n7 rfl ?_ | refine gc_n8 rfl ?_ | refine gc_n9 rfl ?_ | refine gi_con ?_ | refine gi_bip (Nat.le_of_ble_eq_true rfl) ?_ | refine gi_sip (Nat.le_of_ble_eq_true rfl) ?_ | refine gi_ldc ?_ | refine gi_add ?_ | refine gi_inc rfl ?_ | refine gi_sub (by omega) ?_ | refine gi_mul ?_ | refine go_nx rfl ?_)
          refine go_jp rfl ?_
          exact back (some R') h2 own2 csH cap lspH (.ref b) (.ref b) (Or.inr ⟨b, rfl⟩) (by rw [hsome]; rfl) (fun q => by cases q) (fun R2 q => by cases q; exact ⟨b, l', rfl, by omega, p2, p3⟩) hS2 b1 fr2 (by omega) (by omega) (by omega) g8 (by omega) (by omega)
        | some R =>
          obtain ⟨a, la, e1, e2, e3, e4⟩ := hv1 R rfl
          subst e1
          obtain ⟨s1, s2, s3⟩ := hsd R rfl
          have hlt := gL_lt g3.1 e3
          have hj : q_join2 ob (some R) (q_cb ob B (q_word B x) x) = some (q_meet ob R R') := by rw [hsome]; rfl
          have hml := (hsd2 _ hj).2.2
          repeat (first | refine gc_n3 rfl ?_ | refine gc_n6 rfl ?_ | refine gc_n7 rfl ?_ | refine gc_n8 rfl ?_ | refine gc_n9 rfl ?_ | refine gi_con ?_ | refine gi_bip (Nat.le_of_ble_eq_true rfl) ?_ | refine gi_sip (Nat.le_of_ble_eq_true rfl) ?_ | refine gi_ldc ?_ | refine gi_add ?_ | refine gi_inc rfl ?_ | refine gi_sub (by omega) ?_ | refine gi_mul ?_ | refine go_nx rfl ?_)
          refine gn_nnR ?_
          repeat (first | refine gc_n3 rfl ?_ | refine gc_n6 rfl ?_ | refine gc_n7 rfl ?_ | refine gc_n8 rfl ?_ | refine gc_n9 rfl ?_ | refine gi_con ?_ | refine gi_bip (Nat.le_of_ble_eq_true rfl) ?_ | refine gi_sip (Nat.le_of_ble_eq_true rfl) ?_ | refine gi_ldc ?_ | refine gi_add ?_ | refine gi_inc rfl ?_ | refine gi_sub (by omega) ?_ | refine gi_mul ?_ | refine go_nx rfl ?_)
          refine gn_nR ?_
          repeat (first | refine gc_n3 rfl ?_ | refine gc_n6 rfl ?_ | refine gc_n7 rfl ?_ | refine gc_n8 rfl ?_ | refine gc_n9 rfl ?_ | refine gi_con ?_ | refine gi_bip (Nat.le_of_ble_eq_true rfl) ?_ | refine gi_sip (Nat.le_of_ble_eq_true rfl) ?_ | refine gi_ldc ?_ | refine gi_add ?_ | refine gi_inc rfl ?_ | refine gi_sub (by omega) ?_ | refine gi_mul ?_ | refine go_nx rfl ?_)
          refine go_step ?_
          refine g_call (k := 86) rfl (by omega) (Nat.le_of_ble_eq_true rfl) rfl ?_
          refine sp_bmeet (by omega) hE b1 hO (gL_fr b2 g3.1 e3 id) p2 hS2 (by omega) (by omega) (by omega) (bR_fr b2 g3.1 e4) p3 s1 y1 (by omega) (by omega) (by omega) (by omega) (fun h3 own3 ca3 cs3 la3 q1 q2 q3 q4 q5 q6 q7 q8 q9 q10 q11 q12 => ?_)
          repeat (first | refine gc_n3 rfl ?_ | refine gc_n6 rfl ?_ | refine gc_n7 rfl ?_ | refine gc_n8 rfl ?_ | refine gc_n9 rfl ?_ | refine gi_con ?_ | refine gi_bip (Nat.le_of_ble_eq_true rfl) ?_ | refine gi_sip (Nat.le_of_ble_eq_true rfl) ?_ | refine gi_ldc ?_ | refine gi_add ?_ | refine gi_inc rfl ?_ | refine gi_sub (by omega) ?_ | refine gi_mul ?_ | refine go_nx rfl ?_)
          refine go_jp rfl ?_
          have fr3 : lFr h h3 own own3 (fun b => b = S) := lFr_tm fr2 q5 hw.2 (fun b hb q => by omega)
          exact back (some (q_meet ob R R')) h3 own3 cs3 ca3 _ (.ref a) (.ref b) (Or.inr ⟨a, rfl⟩) hj.symm (fun q => by cases q) (fun R2 q => by cases q; exact ⟨a, la3, rfl, e2, q1, q2⟩) q3 q4 fr3 (by omega) (by omega) (by omega) (by omega) (by omega) (by omega)
  repeat (first | refine gc_n3 rfl ?_ | refine gc_n6 rfl ?_ | refine gc_n7 rfl ?_ | refine gc_n8 rfl ?_ | refine gc_n9 rfl ?_ | refine gi_con ?_ | refine gi_bip (Nat.le_of_ble_eq_true rfl) ?_ | refine gi_sip (Nat.le_of_ble_eq_true rfl) ?_ | refine gi_ldc ?_ | refine gi_add ?_ | refine gi_inc rfl ?_ | refine gi_sub (by omega) ?_ | refine gi_mul ?_ | refine go_nx rfl ?_)
  refine gf_get _ (nd_c he) (by decide) rfl ?_
  rw [hfi]
  have go := loop els 0 0 none h own cs 0 lsp .null mm_un (by omega) (by omega) (fun x hx => hx) hchn rfl (fun R q => by cases q) (fun _ => ⟨rfl, rfl⟩) (fun R q => by cases q) hs hw (lFr_r _ _ _) (by omega) (by omega) (by omega) (Nat.le_refl _) (by omega) (Nat.le_refl _)
  rcases ptr_two N els with z | ⟨z, z'⟩
  · rw [z] at go ⊢
    repeat (first | refine gc_n3 rfl ?_ | refine gc_n6 rfl ?_ | refine gc_n7 rfl ?_ | refine gc_n8 rfl ?_ | refine gc_n9 rfl ?_ | refine gi_con ?_ | refine gi_bip (Nat.le_of_ble_eq_true rfl) ?_ | refine gi_sip (Nat.le_of_ble_eq_true rfl) ?_ | refine gi_ldc ?_ | refine gi_add ?_ | refine gi_inc rfl ?_ | refine gi_sub (by omega) ?_ | refine gi_mul ?_ | refine go_nx rfl ?_)
    refine go_jp rfl ?_
    exact go
  · rw [z'] at go ⊢
    repeat (first | refine gc_n3 rfl ?_ | refine gc_n6 rfl ?_ | refine gc_n7 rfl ?_ | refine gc_n8 rfl ?_ | refine gc_n9 rfl ?_ | refine gi_con ?_ | refine gi_bip (Nat.le_of_ble_eq_true rfl) ?_ | refine gi_sip (Nat.le_of_ble_eq_true rfl) ?_ | refine gi_ldc ?_ | refine gi_add ?_ | refine gi_inc rfl ?_ | refine gi_sub (by omega) ?_ | refine gi_mul ?_ | refine go_nx rfl ?_)
    refine go_jp rfl ?_
    exact go
end C
