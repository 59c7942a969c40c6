/-! THE CLASS: Filter.addCondition -/
def clAt (E : mmE) (h : mmH) (own : Nat → Nat) (N O : Nat → Nat) (ob : Nat → Nat → Int32) (B : Nat → Nat) (T : Nat) (Z : List (Nat × Nat × Nat)) (c e al on : Nat) : Prop := ∃ cA cO la lo RA RO, h.2.2 c = some (.inr (8, [.ref (N e), .ref al, .ref on, .int (q_t (zEx ob B (zK B Z e)))])) ∧ gL E h own al cA la ∧ bR h N O la RA ∧ cA ≤ 2 * T + 12 ∧ gL E h own on cO lo ∧ bR h N O lo RO ∧ q_fall ob B (zK B Z e) = some RA ∧ q_fone ob B (zK B Z e) = some RO
/-- the clauses: their list, elements, lists -/
def fCl (E : mmE) (h : mmH) (own : Nat → Nat) (N O : Nat → Nat) (ob : Nat → Nat → Int32) (B : Nat → Nat) (P : Nat → Prop) (T cl S g0 g1 cc : Nat) (Z : List (Nat × Nat × Nat)) (lc es : List Nat) (al on : Nat → Nat) : Prop :=
  gL E h own cl cc lc ∧ lc.length = es.length ∧ es.length ≤ Z.length ∧ cc ≤ 2 * es.length + 10 ∧
  (∀ i, i < es.length → clAt E h own N O ob B T Z (lc.getD i 0) (es.getD i 0) (al i) (on i) ∧ P (es.getD i 0) ∧ g0 ≤ lc.getD i 0 ∧ g0 ≤ al i ∧ (al i ≠ cl ∧ al i ≠ S ∧ on i ≠ cl ∧ on i ≠ S) ∧ al i < g1 ∧ on i < g1) ∧
  (∀ i j, i < es.length → j < es.length → al i ≠ on j ∧ (i ≠ j → al i ≠ al j ∧ lc.getD i 0 ≠ lc.getD j 0)) ∧
  (∀ i j, i < es.length → j < es.length → i ≠ j → q_same B (es.getD i 0) B (es.getD j 0) = false) ∧
  (∀ z ∈ Z, (q_bnd ob B z.2).isSome = true → ∃ i, i < es.length ∧ q_same B z.1 B (es.getD i 0) = true)
def fSt (E : mmE) (h : mmH) (own : Nat → Nat) (N O : Nat → Nat) (ob : Nat → Nat → Int32) (B : Nat → Nat) (P : Nat → Prop) (T fa cl S g0 g1 cc cs : Nat) (Z : List (Nat × Nat × Nat)) : Prop :=
  h.2.2 fa = some (.inr (9, [.ref cl, .ref S])) ∧ (cl ≠ S ∧ g0 ≤ cl ∧ g0 ≤ S ∧ cl < g1 ∧ S < g1) ∧ (∃ lsp, gL E h own S cs lsp) ∧ cs ≤ 2 * T + 10 ∧ ∃ lc es al on, fCl E h own N O ob B P T cl S g0 g1 cc Z lc es al on
def z5 (B : Nat → Nat) (T : Nat) (z : Nat × Nat × Nat) : Nat := 30 * zW B z + 37 * zS B z + 2 * T + 60
def z4 (B : Nat → Nat) (T : Nat) (z : Nat × Nat × Nat) : Nat := 63 * zW B z + 35 * zS B z + 8 * T + 160
section C
variable {E : mmE} {d : Nat} {h h' h0 : mmH} {Q : Option Value → mmH → Prop} {B N O : Nat → Nat} {row n : Nat} {own own' own0 : Nat → Nat} {M : Nat → Prop} {ob : Nat → Nat → Int32} {P : Nat → Prop} {T fa cl S g0 g1 cc cs : Nat} {Z : List (Nat × Nat × Nat)} {lc es : List Nat} {al on : Nat → Nat}
theorem clAt_fr {c e a o : Nat} (h1 : lFr h h' own own' M) (hk : hOk E h) (hc : clAt E h own N O ob B T Z c e a o) (ha : ¬ M a) (ho : ¬ M o) : clAt E h' own' N O ob B T Z c e a o := by
  obtain ⟨cA, cO, la, lo, RA, RO, q1, q2, q3, q4, q5, q6, q7, q8⟩ := hc
  exact ⟨cA, cO, la, lo, RA, RO, by rw [lFr_obj h1 hk q1 (by decide)]; exact q1, gL_fr h1 hk q2 ha, bR_fr h1 hk q3, q4, gL_fr h1 hk q5 ho, bR_fr h1 hk q6, q7, q8⟩
theorem clAt_8 {c e a o c' : Nat} {fs fs' : List Value} (hc' : h.2.2 c' = some (.inr (8, fs))) (hne : c ≠ c') (hc : clAt E h own N O ob B T Z c e a o) : clAt E (mm_set h c' (.inr (8, fs'))) own N O ob B T Z c e a o := by
  obtain ⟨cA, cO, la, lo, RA, RO, q1, q2, q3, q4, q5, q6, q7, q8⟩ := hc
  exact ⟨cA, cO, la, lo, RA, RO, by rw [hs_ne hne]; exact q1, gL_8 hc' q2, bR_8 hc' q3, q4, gL_8 hc' q5, bR_8 hc' q6, q7, q8⟩
/-- a condition of another name, or without bounds -/
theorem clAt_z {c e a o : Nat} {z : Nat × Nat × Nat} (hz : q_same B z.1 B e = false ∨ q_bnd ob B z.2 = none) (hc : clAt E h own N O ob B T Z c e a o) : clAt E h own N O ob B T (Z ++ [z]) c e a o := by
  obtain ⟨cA, cO, la, lo, RA, RO, q1, q2, q3, q4, q5, q6, q7, q8⟩ := hc
  have e1 : q_fall ob B (zK B (Z ++ [z]) e) = q_fall ob B (zK B Z e) ∧ q_fone ob B (zK B (Z ++ [z]) e) = q_fone ob B (zK B Z e) ∧ zEx ob B (zK B (Z ++ [z]) e) = zEx ob B (zK B Z e) := by
    rw [zK_app]
    by_cases hs : q_same B z.1 B e = true
    · rw [if_pos hs]
      exact app_none (hz.resolve_left (fun q => by rw [q] at hs; cases hs))
    · rw [if_neg hs, List.append_nil]
      exact ⟨rfl, rfl, rfl⟩
  exact ⟨cA, cO, la, lo, RA, RO, by rw [e1.2.2]; exact q1, q2, q3, q4, q5, q6, by rw [e1.1]; exact q7, by rw [e1.2.1]; exact q8⟩
theorem fCl_none {z : Nat × Nat × Nat} (hz : q_bnd ob B z.2 = none) (hf : fCl E h own N O ob B P T cl S g0 g1 cc Z lc es al on) : fCl E h own N O ob B P T cl S g0 g1 cc (Z ++ [z]) lc es al on := by
  obtain ⟨a1, a2, a3, a4, a5, a6, a7, a8⟩ := hf
  refine ⟨a1, a2, by rw [List.length_append]; omega, a4, fun i hi => ⟨clAt_z (Or.inr hz) (a5 i hi).1, (a5 i hi).2⟩, a6, a7, fun y hy hs => ?_⟩
  rcases List.mem_append.mp hy with q | q
  · exact a8 y q hs
  · rw [List.mem_singleton.mp q, hz] at hs
    cases hs
theorem fSt_none {z : Nat × Nat × Nat} (hz : q_bnd ob B z.2 = none) (hf : fSt E h own N O ob B P T fa cl S g0 g1 cc cs Z) : fSt E h own N O ob B P T fa cl S g0 g1 cc cs (Z ++ [z]) := by
  obtain ⟨a1, a2, a3, a4, lc, es, al, on, a5⟩ := hf
  exact ⟨a1, a2, a3, a4, lc, es, al, on, fCl_none hz a5⟩
theorem fCl_fr (h1 : lFr h h' own own' (fun b => b = S)) (hk : hOk E h) (hcS : cl ≠ S) (hf : fCl E h own N O ob B P T cl S g0 g1 cc Z lc es al on) : fCl E h' own' N O ob B P T cl S g0 g1 cc Z lc es al on := by
  obtain ⟨a1, a2, a3, a4, a5, a6, a7, a8⟩ := hf
  exact ⟨gL_fr h1 hk a1 hcS, a2, a3, a4, fun i hi => ⟨clAt_fr h1 hk (a5 i hi).1 (a5 i hi).2.2.2.2.1.2.1 (a5 i hi).2.2.2.2.1.2.2.2, (a5 i hi).2⟩, a6, a7, a8⟩
theorem fSt_fr {cs' : Nat} {lsp' : List Nat} (h1 : lFr h h' own own' (fun b => b = S)) (hk : hOk E h) (hS : gL E h' own' S cs' lsp') (hcs : cs' ≤ 2 * T + 10) (hf : fSt E h own N O ob B P T fa cl S g0 g1 cc cs Z) : fSt E h' own' N O ob B P T fa cl S g0 g1 cc cs' Z := by
  obtain ⟨a1, a2, a3, a4, lc, es, al, on, a5⟩ := hf
  exact ⟨by rw [lFr_obj h1 hk a1 (by decide)]; exact a1, a2, ⟨lsp', hS⟩, hcs, lc, es, al, on, fCl_fr h1 hk a2.1 a5⟩
theorem fSt_g {g2 : Nat} (hg : g1 ≤ g2) (hf : fSt E h own N O ob B P T fa cl S g0 g1 cc cs Z) : fSt E h own N O ob B P T fa cl S g0 g2 cc cs Z := by
  obtain ⟨a1, ⟨b1, b2, b3, b4, b5⟩, a3, a4, lc, es, al, on, c1, c2, c3, c4, c5, c6, c7, c8⟩ := hf
  exact ⟨a1, ⟨b1, b2, b3, by omega, by omega⟩, a3, a4, lc, es, al, on, c1, c2, c3, c4, fun i hi => by
    obtain ⟨d1, d2, d3, d4, d5, d6, d7⟩ := c5 i hi
    exact ⟨d1, d2, d3, d4, d5, by omega, by omega⟩, c6, c7, c8⟩
/-- the nodes of the filter stand -/
def fCx (h : mmH) (row n : Nat) (B N O : Nat → Nat) : Prop := bRow h row n B ∧ nBox h row B N O 16 0
theorem fCx_fr (h1 : lFr h h' own own' M) (hk : hOk E h) (hx : fCx h row n B N O) : fCx h' row n B N O := by
  obtain ⟨q1, q2⟩ := hx
  refine ⟨bRow_eq q1 ?_, nBox_sub (lFr_4 h1 hk) q2⟩
  obtain ⟨-, ⟨f, r2, -⟩, -⟩ := q1
  exact lFr_row h1 hk r2 (by decide)
theorem fCx_8 {c : Nat} {fs fs' : List Value} (hc : h.2.2 c = some (.inr (8, fs))) (hx : fCx h row n B N O) : fCx (mm_set h c (.inr (8, fs'))) row n B N O := ⟨bRow_8 hc hx.1, nB_8 hc hx.2⟩
theorem fCx_nd (hbx : q_box (q_u8 B) B 16 0 n false = true) (hx : fCx h row n B N O) {x : Nat} (hp : x ∈ q_pre B 16 0) : ∃ lev lim, ndOk h row B N O n lev lim x ∧ q_ok B n x := by
  obtain ⟨lev, lim, a1, a2, a3⟩ := nBox_el hbx (Nat.le_refl _) hx.2 x hp
  refine ⟨lev, lim, ⟨a3, fun h34 => ?_⟩, q_me_ok a2⟩
  obtain ⟨last, b1, b2, b3, b4⟩ := a2
  have b5 := q_at_box b4
  rcases h34 with q | q
  · exact ⟨last, false, b1, b5.1 q⟩
  · exact ⟨last, true, b1, b5.2 q⟩
theorem fall_sd (hO : oIs ob P O) {e : Nat} {R : List qR} (hZ : ∀ z ∈ Z, ∀ l, q_bnd ob B z.2 = some l → rSd P O l ∧ l.length ≤ zS B z) (hs : (Z.map (zS B)).sum ≤ T) (hR : q_fall ob B (zK B Z e) = some R) : rSd P O R ∧ R.length ≤ T := by
  have hmem : ∀ ce ∈ zK B Z e, ∃ z ∈ Z, z.2 = ce := by
    intro ce h
    obtain ⟨z, hz, q⟩ := List.mem_map.mp h
    exact ⟨z, (List.mem_filter.mp hz).1, q⟩
  have := fold_sd hO (zK B Z e) none 0 (fun ce h l q => by
    obtain ⟨z, hz, rfl⟩ := hmem ce h
    exact (hZ z hz l q).1) (fun l q => by cases q) R hR
  refine ⟨this.1, Nat.le_trans this.2 ?_⟩
  have e1 : ((zK B Z e).map (fun ce => ((q_bnd ob B ce).getD []).length)).sum ≤ (Z.map (zS B)).sum := by
    unfold zK
    rw [List.map_map]
    refine Nat.le_trans (sum_filter _ _ _) (sum_mono (fun z hz => ?_))
    show ((q_bnd ob B z.2).getD []).length ≤ _
    cases hq : q_bnd ob B z.2 with
    | none => exact Nat.zero_le _
    | some l => exact (hZ z hz l hq).2
  omega
theorem snoc_get {l : List Nat} {x i : Nat} : (l ++ [x]).getD i 0 = if i < l.length then l.getD i 0 else if i = l.length then x else 0 := by
  rw [List.getD_eq_getElem?_getD]
  by_cases h1 : i < l.length
  · rw [if_pos h1, List.getElem?_append_left h1, ← List.getD_eq_getElem?_getD]
  · rw [if_neg h1, List.getElem?_append_right (by omega)]
    by_cases h2 : i = l.length
    · rw [if_pos h2, h2, Nat.sub_self]
      rfl
    · rw [if_neg h2, show i - l.length = (i - l.length - 1) + 1 by omega]
      rfl
/-- a condition with bounds finds its clause -/
theorem sp_addB3 {e ce w b cb : Nat} {lb : List Nat} {R : List qR} (hd : 12 ≤ d) (hE : sE E) (hw : wOk E h own) (hw0 : ∀ b, own0 b < h0.1) (hf0 : lFr h0 h own0 own (fun _ => False)) (hg0 : h0.1 = g0) (hrow : q_row B n) (hbx : q_box (q_u8 B) B 16 0 n false = true) (hP : ∀ x, P x → x ∈ q_pre B 16 0) (hO : oIs ob P O) (hx : fCx h row n B N O) (hf : fSt E h own N O ob B P T fa cl S g0 g1 cc cs Z) (hT : T ≤ 997) (hZl : Z.length ≤ 100) (he : P e) (hw16 : w ≤ 16) (hnof : 1 ≤ q_nof w)
    (hb : gL E h own b cb lb) (hrb : bR h N O lb R) (hbg : g1 ≤ b) (hg1 : g0 ≤ g1) (hbnd : q_bnd ob B (q_nof w, ce) = some R) (hZ : ∀ z ∈ Z ++ [(e, q_nof w, ce)], ∀ l, q_bnd ob B z.2 = some l → rSd P O l ∧ l.length ≤ zS B z) (hs : ((Z ++ [(e, q_nof w, ce)]).map (zS B)).sum ≤ T)
    (hq : ∀ h' own' cc' cs', fSt E h' own' N O ob B P T fa cl S g0 h'.1 cc' cs' (Z ++ [(e, q_nof w, ce)]) → wOk E h' own' → fCx h' row n B N O → lFr h0 h' own0 own' (fun _ => False) → 5 * h'.1 + cc + cs ≤ 5 * h.1 + cc' + cs' + 10 * R.length + 2 * T + 30 → h'.2.1 + 4 * cc + 4 * cs ≤ h.2.1 + 4 * cc' + 4 * cs' + 8 * R.length + 8 * T + 60 → h.2.1 ≤ h'.2.1 → Q none h') : mm_Go E d 81 (mm_blk 81 3) [.ref fa, .ref (N e), .ref (N ce), .int (nI w), .ref b, mm_un] [] h Q := by
  obtain ⟨fa1, ⟨clS, g0c, g0S, c1g, S1g⟩, ⟨lsp, hS⟩, hcs, lc, es, al, on, hfc⟩ := hf
  have hfc0 := hfc
  obtain ⟨a1, a2, a3, a4, a5, a6, a7, a8⟩ := hfc
  obtain ⟨lev, lim, hnd, hok⟩ := fCx_nd hbx hx (hP e he)
  have hnc := nd_c hnd
  have hne := q_ne_is hrow (show e ≤ 2000 by have := hok.1; have := hrow.1; omega)
  have hok2 := hok.2.1
  have hn := hrow.1
  have hbl := gL_lt hw.1 hb
  have hzz := hZ (e, q_nof w, ce) (List.mem_append_right _ List.mem_cons_self) R hbnd
  have hsz : (Z.map (zS B)).sum + (zS B (e, q_nof w, ce) + 0) ≤ T := by rw [List.map_append, List.sum_append] at hs; exact hs
  have hRl := hrb.1
  generalize hexw : (if w = 5 ∨ w = 7 then 1 else 0) = exw
  have hex1 : exw ≤ 1 := by rw [← hexw]; split <;> omega
  have hex3 : q_t (decide (q_nof w < 3)) = nI exw := by
    have : ∀ w, w < 17 → 1 ≤ q_nof w → q_t (decide (q_nof w < 3)) = nI (if w = 5 ∨ w = 7 then 1 else 0) := by decide +kernel
    rw [← hexw]
    exact this w (by omega) hnof
  have hex4 : exw = 1 ↔ q_nof w < 3 := by
    have : ∀ w, w < 17 → 1 ≤ q_nof w → ((if w = 5 ∨ w = 7 then 1 else 0) = 1 ↔ q_nof w < 3) := by decide +kernel
    rw [← hexw]
    exact this w (by omega) hnof
  have b4 : ∀ (H : mmH) (c : Nat) (fs : List Value), H.2.2 fa = some (.inr (9, [.ref cl, .ref S])) → H.2.2 c = some (.inr (8, fs)) → mm_Go E (d - 1) 172 (mm_blk 172 0) [.ref c, .ref b, .int (nI exw), .ref S] [] H (fun r h' => r = none ∧ Q none h') → mm_Go E d 81 (mm_blk 81 4) [.ref fa, .ref (N e), .ref (N ce), .int (nI w), .ref b, .ref c] [] H Q := by
    intro H c fs q1 q2 q3
    have seven : mm_Go E d 81 (mm_blk 81 7) [.ref fa, .ref (N e), .ref (N ce), .int (nI w), .ref b, .ref c] [.int (nI exw), .ref b, .ref c] H Q := by
      repeat (first | refine gc_n3 rfl ?_ | refine gc_n6 rfl ?_ | refine gc_n7 rfl ?_ | refine gc_n8 rfl ?_ | refine gc_n9 rfl ?_ | refine gi_con ?_ | refine gi_bip (Nat.le_of_ble_eq_true rfl) ?_ | refine gi_sip (Nat.le_of_ble_eq_true rfl) ?_ | refine gi_ldc ?_ | refine gi_add ?_ | refine gi_inc rfl ?_ | refine gi_sub (by omega) ?_ | refine gi_mul ?_ | refine go_nx rfl ?_)
      refine gf_get _ q1 (by decide) rfl ?_
      refine go_step ?_
      refine g_callV (by decide) (by decide) (Nat.le_of_ble_eq_true rfl) (Nat.le_of_ble_eq_true rfl) (o_rcv q2 rfl (by decide)) (by omega) (Nat.le_of_ble_eq_true rfl) rfl ?_
      refine go_mono q3 (fun r h' q => ?_)
      obtain ⟨q, q'⟩ := q
      subst q
      repeat (first | refine gc_n3 rfl ?_ | refine gc_n6 rfl ?_ | refine gc_n7 rfl ?_ | refine gc_n8 rfl ?_ | refine gc_n9 rfl ?_ | refine gi_con ?_ | refine gi_bip (Nat.le_of_ble_eq_true rfl) ?_ | refine gi_sip (Nat.le_of_ble_eq_true rfl) ?_ | refine gi_ldc ?_ | refine gi_add ?_ | refine gi_inc rfl ?_ | refine gi_sub (by omega) ?_ | refine gi_mul ?_ | refine go_nx rfl ?_)
      refine go_rt rfl ?_
      exact q'
    have five : w = 5 ∨ w = 7 → mm_Go E d 81 (mm_blk 81 5) [.ref fa, .ref (N e), .ref (N ce), .int (nI w), .ref b, .ref c] [.ref b, .ref c] H Q := by
      intro q
      rw [if_pos q] at hexw
      subst hexw
      repeat (first | refine gc_n3 rfl ?_ | refine gc_n6 rfl ?_ | refine gc_n7 rfl ?_ | refine gc_n8 rfl ?_ | refine gc_n9 rfl ?_ | refine gi_con ?_ | refine gi_bip (Nat.le_of_ble_eq_true rfl) ?_ | refine gi_sip (Nat.le_of_ble_eq_true rfl) ?_ | refine gi_ldc ?_ | refine gi_add ?_ | refine gi_inc rfl ?_ | refine gi_sub (by omega) ?_ | refine gi_mul ?_ | refine go_nx rfl ?_)
      refine go_jp rfl ?_
      exact seven
    repeat (first | refine gc_n3 rfl ?_ | refine gc_n6 rfl ?_ | refine gc_n7 rfl ?_ | refine gc_n8 rfl ?_ | refine gc_n9 rfl ?_ | refine gi_con ?_ | refine gi_bip (Nat.le_of_ble_eq_true rfl) ?_ | refine gi_sip (Nat.le_of_ble_eq_true rfl) ?_ | refine gi_ldc ?_ | refine gi_add ?_ | refine gi_inc rfl ?_ | refine gi_sub (by omega) ?_ | refine gi_mul ?_ | refine go_nx rfl ?_)
    first | refine gb_lt (by omega) (by omega) (fun c5 => ?_) (fun c5 => ?_) | refine gb_ge (by omega) (by omega) (fun c5 => ?_) (fun c5 => ?_) | refine gb_gt (by omega) (by omega) (fun c5 => ?_) (fun c5 => ?_) | refine gb_le (by omega) (by omega) (fun c5 => ?_) (fun c5 => ?_) | refine gb_eq (by omega) (by omega) (fun c5 => ?_) (fun c5 => ?_) | refine gb_ne (by omega) (by omega) (fun c5 => ?_) (fun c5 => ?_)
    · exact five (Or.inl c5)
    repeat (first | refine gc_n3 rfl ?_ | refine gc_n6 rfl ?_ | refine gc_n7 rfl ?_ | refine gc_n8 rfl ?_ | refine gc_n9 rfl ?_ | refine gi_con ?_ | refine gi_bip (Nat.le_of_ble_eq_true rfl) ?_ | refine gi_sip (Nat.le_of_ble_eq_true rfl) ?_ | refine gi_ldc ?_ | refine gi_add ?_ | refine gi_inc rfl ?_ | refine gi_sub (by omega) ?_ | refine gi_mul ?_ | refine go_nx rfl ?_)
    first | refine gb_lt (by omega) (by omega) (fun c6 => ?_) (fun c6 => ?_) | refine gb_ge (by omega) (by omega) (fun c6 => ?_) (fun c6 => ?_) | refine gb_gt (by omega) (by omega) (fun c6 => ?_) (fun c6 => ?_) | refine gb_le (by omega) (by omega) (fun c6 => ?_) (fun c6 => ?_) | refine gb_eq (by omega) (by omega) (fun c6 => ?_) (fun c6 => ?_) | refine gb_ne (by omega) (by omega) (fun c6 => ?_) (fun c6 => ?_)
    · rw [if_neg (fun q => q.elim c5 c6)] at hexw
      subst hexw
      repeat (first | refine gc_n3 rfl ?_ | refine gc_n6 rfl ?_ | refine gc_n7 rfl ?_ | refine gc_n8 rfl ?_ | refine gc_n9 rfl ?_ | refine gi_con ?_ | refine gi_bip (Nat.le_of_ble_eq_true rfl) ?_ | refine gi_sip (Nat.le_of_ble_eq_true rfl) ?_ | refine gi_ldc ?_ | refine gi_add ?_ | refine gi_inc rfl ?_ | refine gi_sub (by omega) ?_ | refine gi_mul ?_ | refine go_nx rfl ?_)
      refine go_jp rfl ?_
      exact seven
    · repeat (first | refine gc_n3 rfl ?_ | refine gc_n6 rfl ?_ | refine gc_n7 rfl ?_ | refine gc_n8 rfl ?_ | refine gc_n9 rfl ?_ | refine gi_con ?_ | refine gi_bip (Nat.le_of_ble_eq_true rfl) ?_ | refine gi_sip (Nat.le_of_ble_eq_true rfl) ?_ | refine gi_ldc ?_ | refine gi_add ?_ | refine gi_inc rfl ?_ | refine gi_sub (by omega) ?_ | refine gi_mul ?_ | refine go_nx rfl ?_)
      refine go_jp rfl ?_
      exact five (Or.inr c6)
  repeat (first | refine gc_n3 rfl ?_ | refine gc_n6 rfl ?_ | refine gc_n7 rfl ?_ | refine gc_n8 rfl ?_ | refine gc_n9 rfl ?_ | refine gi_con ?_ | refine gi_bip (Nat.le_of_ble_eq_true rfl) ?_ | refine gi_sip (Nat.le_of_ble_eq_true rfl) ?_ | refine gi_ldc ?_ | refine gi_add ?_ | refine gi_inc rfl ?_ | refine gi_sub (by omega) ?_ | refine gi_mul ?_ | refine go_nx rfl ?_)
  refine gf_get _ hnc (by decide) rfl ?_
  repeat (first | refine gc_n3 rfl ?_ | refine gc_n6 rfl ?_ | refine gc_n7 rfl ?_ | refine gc_n8 rfl ?_ | refine gc_n9 rfl ?_ | refine gi_con ?_ | refine gi_bip (Nat.le_of_ble_eq_true rfl) ?_ | refine gi_sip (Nat.le_of_ble_eq_true rfl) ?_ | refine gi_ldc ?_ | refine gi_add ?_ | refine gi_inc rfl ?_ | refine gi_sub (by omega) ?_ | refine gi_mul ?_ | refine go_nx rfl ?_)
  refine go_step ?_
  refine g_callV (by decide) (by decide) (Nat.le_of_ble_eq_true rfl) (Nat.le_of_ble_eq_true rfl) (o_rcv hnc rfl (by decide)) (by omega) (Nat.le_of_ble_eq_true rfl) rfl ?_
  refine sp_nmFrom hnc rfl ?_
  repeat (first | refine gc_n3 rfl ?_ | refine gc_n6 rfl ?_ | refine gc_n7 rfl ?_ | refine gc_n8 rfl ?_ | refine gc_n9 rfl ?_ | refine gi_con ?_ | refine gi_bip (Nat.le_of_ble_eq_true rfl) ?_ | refine gi_sip (Nat.le_of_ble_eq_true rfl) ?_ | refine gi_ldc ?_ | refine gi_add ?_ | refine gi_inc rfl ?_ | refine gi_sub (by omega) ?_ | refine gi_mul ?_ | refine go_nx rfl ?_)
  refine gf_get _ hnc (by decide) rfl ?_
  refine go_step ?_
  refine g_callV (by decide) (by decide) (Nat.le_of_ble_eq_true rfl) (Nat.le_of_ble_eq_true rfl) (o_rcv fa1 rfl (by decide)) (by omega) (Nat.le_of_ble_eq_true rfl) rfl ?_
  refine sp_clauseOf (N := N) (O := O) (by omega) hrow fa1 a1 a2 (by omega) (fun i hi => ?_) (fun i hi => ?_) hx.1 hx.1 (by omega) (by omega) (fun hno => ?_) (fun i hi hm => ?_)
  · obtain ⟨⟨cA, cO, la, lo, RA, RO, q1, -⟩, -⟩ := a5 i hi
    exact ⟨_, _, _, q1⟩
  · obtain ⟨lev, lim, q1, q2⟩ := fCx_nd hbx hx (hP _ (a5 i hi).2.1)
    exact ⟨⟨lim, q1.1.1⟩, q2⟩
  · /- a new clause -/
    have hnoz : ∀ c ∈ zK B Z e, q_bnd ob B c = none := by
      intro c hc
      obtain ⟨z, hz, q⟩ := List.mem_map.mp hc
      obtain ⟨hz1, hz2⟩ := List.mem_filter.mp hz
      cases hbz : q_bnd ob B c with
      | none => rfl
      | some l =>
        obtain ⟨i, hi, hsm⟩ := a8 z hz1 (by rw [q, hbz]; rfl)
        have := hno i hi
        have e1 : q_same B (es.getD i 0) B e = true := same_trans (same_symm hsm) hz2
        rw [show cMt B (es.getD i 0) (fun j => B (e + 1 + j)) (q_ne B e - (e + 1)) = q_same B (es.getD i 0) B e from rfl, e1] at this
        cases this
    repeat (first | refine gc_n3 rfl ?_ | refine gc_n6 rfl ?_ | refine gc_n7 rfl ?_ | refine gc_n8 rfl ?_ | refine gc_n9 rfl ?_ | refine gi_con ?_ | refine gi_bip (Nat.le_of_ble_eq_true rfl) ?_ | refine gi_sip (Nat.le_of_ble_eq_true rfl) ?_ | refine gi_ldc ?_ | refine gi_add ?_ | refine gi_inc rfl ?_ | refine gi_sub (by omega) ?_ | refine gi_mul ?_ | refine go_nx rfl ?_)
    refine gn_nnN ?_
    refine gc_n8 rfl ?_
    repeat (first | refine gc_n3 rfl ?_ | refine gc_n6 rfl ?_ | refine gc_n7 rfl ?_ | refine gc_n8 rfl ?_ | refine gc_n9 rfl ?_ | refine gi_con ?_ | refine gi_bip (Nat.le_of_ble_eq_true rfl) ?_ | refine gi_sip (Nat.le_of_ble_eq_true rfl) ?_ | refine gi_ldc ?_ | refine gi_add ?_ | refine gi_inc rfl ?_ | refine gi_sub (by omega) ?_ | refine gi_mul ?_ | refine go_nx rfl ?_)
    refine go_step ?_
    refine g_call (k := 171) rfl (by omega) (Nat.le_of_ble_eq_true rfl) rfl ?_
    refine sp_clinit (by omega) hE hw (fun h1 k1 k2 k3 k4 k5 k6 => ?_)
    have fa2 := lFr_obj k4 hw.1 fa1 (by decide)
    rw [fa1] at fa2
    repeat (first | refine gc_n3 rfl ?_ | refine gc_n6 rfl ?_ | refine gc_n7 rfl ?_ | refine gc_n8 rfl ?_ | refine gc_n9 rfl ?_ | refine gi_con ?_ | refine gi_bip (Nat.le_of_ble_eq_true rfl) ?_ | refine gi_sip (Nat.le_of_ble_eq_true rfl) ?_ | refine gi_ldc ?_ | refine gi_add ?_ | refine gi_inc rfl ?_ | refine gi_sub (by omega) ?_ | refine gi_mul ?_ | refine go_nx rfl ?_)
    refine gf_get _ fa2 (by decide) rfl ?_
    repeat (first | refine gc_n3 rfl ?_ | refine gc_n6 rfl ?_ | refine gc_n7 rfl ?_ | refine gc_n8 rfl ?_ | refine gc_n9 rfl ?_ | refine gi_con ?_ | refine gi_bip (Nat.le_of_ble_eq_true rfl) ?_ | refine gi_sip (Nat.le_of_ble_eq_true rfl) ?_ | refine gi_ldc ?_ | refine gi_add ?_ | refine gi_inc rfl ?_ | refine gi_sub (by omega) ?_ | refine gi_mul ?_ | refine go_nx rfl ?_)
    have a1' := gL_fr k4 hw.1 a1 id
    refine go_step ?_
    refine g_callV (by decide) (by decide) (Nat.le_of_ble_eq_true rfl) (Nat.le_of_ble_eq_true rfl) (gL_rcv a1') (by omega) (Nat.le_of_ble_eq_true rfl) rfl ?_
    refine sp_ladd (by omega) hE k3 a1' k1 (by decide) (by omega) (fun h2 own2 cc2 p1 p2 p3 p4 => ?_)
    have hll := gL_lt hw.1 a1
    have hSl := gL_lt hw.1 hS
    have fa3 := lFr_obj p3 k3.1 fa2 (by decide)
    rw [fa2] at fa3
    have k1' := lFr_obj p3 k3.1 k1 (by decide)
    rw [k1] at k1'
    repeat (first | refine gc_n3 rfl ?_ | refine gc_n6 rfl ?_ | refine gc_n7 rfl ?_ | refine gc_n8 rfl ?_ | refine gc_n9 rfl ?_ | refine gi_con ?_ | refine gi_bip (Nat.le_of_ble_eq_true rfl) ?_ | refine gi_sip (Nat.le_of_ble_eq_true rfl) ?_ | refine gi_ldc ?_ | refine gi_add ?_ | refine gi_inc rfl ?_ | refine gi_sub (by omega) ?_ | refine gi_mul ?_ | refine go_nx rfl ?_)
    refine go_jp rfl ?_
    refine b4 h2 h.1 _ fa3 k1' ?_
    have fr2 : lFr h h2 own own2 (fun x => x = cl) := lFr_tm (lFr_m k4 hw.2 (fun _ _ q => q.elim)) p3 hw.2 (fun _ _ q => q)
    have hal2 := gL_fr p3 k3.1 k2 (show ¬ h.1 + 1 = cl by omega)
    have hb2 := gL_fr fr2 hw.1 hb (by omega)
    refine sp_clnew (N := N) (O := O) (RB := R) (by omega) hE p2 k1' hal2 hb2 (bR_fr fr2 hw.1 hrb) (by omega) (by omega) hex1 (fun h3 own3 ca3 r1 r2 r3 r4 => ⟨rfl, ?_⟩)
    have c3 := lFr_obj r3 p2.1 k1' (by decide)
    rw [k1'] at c3
    have fr3 : lFr h h3 own own3 (fun x => x = cl) := lFr_tm fr2 r3 hw.2 (fun x hx q => by omega)
    have fr0 : lFr h0 h3 own0 own3 (fun _ => False) := lFr_tm hf0 fr3 hw0 (fun x hx q => by omega)
    have hhl := fr3.1
    obtain ⟨u1, u2, u3, u4, u5⟩ := p4
    obtain ⟨v1, v2, v3, v4, v5⟩ := r4
    have h3l := r3.1
    have hcl3 := gL_fr r3 p2.1 p1 (show ¬ cl = h.1 + 1 by omega)
    have hS3 := gL_fr fr3 hw.1 hS (Ne.symm clS)
    have hb3 := gL_fr fr3 hw.1 hb (show ¬ b = cl by omega)
    have hrb3 := bR_fr fr3 hw.1 hrb
    have new := app_new hnoz hbnd
    have happ : zK B (Z ++ [(e, q_nof w, ce)]) e = zK B Z e ++ [(q_nof w, ce)] := by
      rw [zK_app, if_pos (same_refl e)]
    have hm : lc.length = es.length := a2
    have hnes : ∀ i, i < es.length → q_same B e B (es.getD i 0) = false := by
      intro i hi
      cases hsm : q_same B e B (es.getD i 0) with
      | false => rfl
      | true =>
        have := hno i hi
        rw [show cMt B (es.getD i 0) (fun j => B (e + 1 + j)) (q_ne B e - (e + 1)) = q_same B (es.getD i 0) B e from rfl, same_symm hsm] at this
        cases this
    have hlcg : ∀ i, i < es.length → lc.getD i 0 < h.1 := by
      intro i hi
      obtain ⟨⟨cA, cO, la, lo, RA, RO, q1, -⟩, -⟩ := a5 i hi
      exact hOk_lt hw.1 q1
    refine hq _ own3 cc2 cs ⟨by rw [hs_ne (fun q => by rw [q, k1'] at fa3; cases fa3), lFr_obj r3 p2.1 fa3 (by decide)]; exact fa3, ⟨clS, g0c, g0S, ?_, ?_⟩, ⟨lsp, gL_8 c3 hS3⟩, hcs, lc ++ [h.1], es ++ [e], uf al es.length (h.1 + 1), uf on es.length b, gL_8 c3 hcl3, ?_, ?_, ?_, ?_, ?_, ?_, ?_⟩ (wOk_8 c3 r2) (fCx_8 c3 (fCx_fr fr3 hw.1 hx)) (lFr_8 fr0 (by omega)) ?_ ?_ ?_
    · show cl < h3.1
      omega
    · show S < h3.1
      omega
    · rw [List.length_append, List.length_append, a2]
      rfl
    · rw [List.length_append, List.length_append]
      show es.length + 1 ≤ Z.length + 1
      omega
    · rw [List.length_append]
      show cc2 ≤ 2 * (es.length + 1) + 10
      omega
    · intro i hi
      rw [List.length_append] at hi
      have hi : i < es.length + 1 := hi
      rw [snoc_get, snoc_get, a2]
      by_cases h1' : i < es.length
      · rw [if_pos h1', if_pos h1', uf_ne (by omega), uf_ne (by omega)]
        obtain ⟨d1, d2, d3, d4, ⟨d5, d6, d7, d8⟩, d9, d10⟩ := a5 i h1'
        have hlt := hlcg i h1'
        refine ⟨clAt_z (Or.inl (hnes i h1')) (clAt_8 c3 (by omega) (clAt_fr fr3 hw.1 d1 d5 d7)), d2, d3, d4, ⟨d5, d6, d7, d8⟩, ?_, ?_⟩
        · show al i < h3.1
          omega
        · show on i < h3.1
          omega
      · have e1 : i = es.length := by omega
        rw [if_neg h1', if_neg h1', if_pos e1, if_pos e1, e1, uf_at, uf_at]
        refine ⟨⟨ca3, cb, lb, lb, R, R, ?_, gL_8 c3 r1, bR_8 c3 hrb3, ?_, gL_8 c3 hb3, bR_8 c3 hrb3, ?_, ?_⟩, he, by omega, by omega, ⟨by omega, by omega, by omega, by omega⟩, ?_, ?_⟩
        · rw [happ, new.2.2, hex3]
          exact hs_at
        · omega
        · rw [happ]; exact new.1
        · rw [happ]; exact new.2.1
        · show h.1 + 1 < h3.1
          have := gL_lt r2.1 r1
          omega
        · show b < h3.1
          omega
    · intro i j hi hj
      rw [List.length_append] at hi hj
      have hi : i < es.length + 1 := hi
      have hj : j < es.length + 1 := hj
      rw [snoc_get, snoc_get, a2]
      by_cases hi1 : i < es.length
      · obtain ⟨d1, d2, d3, d4, d5, d9, d10⟩ := a5 i hi1
        have hlt := hlcg i hi1
        by_cases hj1 : j < es.length
        · rw [if_pos hi1, if_pos hj1, uf_ne (by omega), uf_ne (by omega), uf_ne (by omega)]
          exact a6 i j hi1 hj1
        · have ej : j = es.length := by omega
          rw [if_pos hi1, if_neg hj1, if_pos ej, ej, uf_ne (by omega), uf_at, uf_at]
          exact ⟨by omega, fun _ => ⟨by omega, by omega⟩⟩
      · have ei : i = es.length := by omega
        by_cases hj1 : j < es.length
        · obtain ⟨d1, d2, d3, d4, d5, d9, d10⟩ := a5 j hj1
          have hlt := hlcg j hj1
          rw [if_neg hi1, if_pos ei, if_pos hj1, ei, uf_at, uf_ne (by omega), uf_ne (by omega)]
          exact ⟨by omega, fun _ => ⟨by omega, by omega⟩⟩
        · have ej : j = es.length := by omega
          rw [ei, ej, uf_at, uf_at]
          exact ⟨by omega, fun q => absurd rfl q⟩
    · intro i j hi hj hij
      rw [List.length_append] at hi hj
      have hi : i < es.length + 1 := hi
      have hj : j < es.length + 1 := hj
      rw [snoc_get, snoc_get]
      by_cases hi1 : i < es.length
      · by_cases hj1 : j < es.length
        · rw [if_pos hi1, if_pos hj1]
          exact a7 i j hi1 hj1 hij
        · have ej : j = es.length := by omega
          rw [if_pos hi1, if_neg hj1, if_pos ej]
          exact hno i hi1
      · have ei : i = es.length := by omega
        rw [if_neg hi1, if_pos ei, if_pos (by omega)]
        exact hnes j (by omega)
    · intro y hy hsm
      rcases List.mem_append.mp hy with q | q
      · obtain ⟨i, hi, q2⟩ := a8 y q hsm
        refine ⟨i, by rw [List.length_append]; omega, ?_⟩
        rw [snoc_get, if_pos hi]
        exact q2
      · refine ⟨es.length, by rw [List.length_append]; show es.length < es.length + 1; omega, ?_⟩
        rw [snoc_get, if_neg (Nat.lt_irrefl _), if_pos rfl, List.mem_singleton.mp q]
        exact same_refl e
    · show 5 * h3.1 + cc + cs ≤ _
      omega
    · show h3.2.1 + 4 * cc + 4 * cs ≤ _
      omega
    · show h.2.1 ≤ h3.2.1
      omega
  · /- a clause that stands -/
    have hm : q_same B (es.getD i 0) B e = true := hm
    have hms := same_symm hm
    obtain ⟨d1, d2, d3, d4, ⟨d5, d6, d7, d8⟩, d9, d10⟩ := a5 i hi
    obtain ⟨cA, cO, la, lo, RA, RO, q1, q2, q3, q4, q5, q6, q7, q8⟩ := d1
    obtain ⟨sa, sal⟩ := fall_sd hO (fun z hz => hZ z (List.mem_append_left _ hz)) (show (Z.map (zS B)).sum ≤ T by omega) q7
    have happ : zK B (Z ++ [(e, q_nof w, ce)]) (es.getD i 0) = zK B Z (es.getD i 0) ++ [(q_nof w, ce)] := by
      rw [zK_app, if_pos hms]
    have more := app_more q7 q8 hbnd
    rw [← happ] at more
    obtain ⟨-, mlen⟩ := fall_sd hO hZ hs more.1
    repeat (first | refine gc_n3 rfl ?_ | refine gc_n6 rfl ?_ | refine gc_n7 rfl ?_ | refine gc_n8 rfl ?_ | refine gc_n9 rfl ?_ | refine gi_con ?_ | refine gi_bip (Nat.le_of_ble_eq_true rfl) ?_ | refine gi_sip (Nat.le_of_ble_eq_true rfl) ?_ | refine gi_ldc ?_ | refine gi_add ?_ | refine gi_inc rfl ?_ | refine gi_sub (by omega) ?_ | refine gi_mul ?_ | refine go_nx rfl ?_)
    refine gn_nnR ?_
    refine b4 h _ _ fa1 q1 ?_
    refine sp_clmore (by omega) hE hw hO q1 q2 hb hS (by omega) d6 (by omega) q3 hrb sa hzz.1 (by omega) (by omega) (by omega) (by omega) hex1 (fun h3 own3 ca3 cs3 la3 r1 r2 r3 r4 r5 r6 r7 r8 r9 r10 r11 r12 => ?_)
    have c3 := lFr_obj r5 hw.1 q1 (by decide)
    rw [q1] at c3
    have fa3 := lFr_obj r5 hw.1 fa1 (by decide)
    rw [fa1] at fa3
    have hcl3 := gL_fr r5 hw.1 a1 (by show ¬ (cl = al i ∨ cl = S); omega)
    have hb3 := gL_fr r5 hw.1 hb (by show ¬ (b = al i ∨ b = S); omega)
    have ho3 := gL_fr r5 hw.1 q5 (by have := (a6 i i hi hi).1; show ¬ (on i = al i ∨ on i = S); omega)
    have fr0 : lFr h0 h3 own0 own3 (fun _ => False) := lFr_tm hf0 r5 hw0 (fun x hx q => by omega)
    have hfa : fa ≠ lc.getD i 0 := fun q => by rw [q, q1] at fa1; cases fa1
    have h3l := r5.1
    have alt : al i < h.1 := gL_lt hw.1 q2
    have ont : on i < h.1 := gL_lt hw.1 q5
    /- what is said of the other clauses -/
    have oth : ∀ (H : mmH) (on2 : Nat → Nat), on2 = on ∨ on2 = uf on i b → gL E H own3 cl cc lc → (∀ j, j < es.length → j ≠ i → clAt E H own3 N O ob B T Z (lc.getD j 0) (es.getD j 0) (al j) (on j)) → clAt E H own3 N O ob B T (Z ++ [(e, q_nof w, ce)]) (lc.getD i 0) (es.getD i 0) (al i) (on2 i) → h3.1 ≤ H.1 → fCl E H own3 N O ob B P T cl S g0 H.1 cc (Z ++ [(e, q_nof w, ce)]) lc es al on2 := by
      intro H on2 hon2 t1 t2 t3 t4
      have on2i : on2 i = on i ∨ on2 i = b := by
        rcases hon2 with q | q
        · exact Or.inl (by rw [q])
        · exact Or.inr (by rw [q, uf_at])
      have on2j : ∀ j, j ≠ i → on2 j = on j := by
        intro j hj
        rcases hon2 with q | q
        · rw [q]
        · rw [q, uf_ne hj]
      refine ⟨t1, a2, by rw [List.length_append]; omega, a4, fun j hj => ?_, fun j k hj hk => ?_, a7, fun y hy hsm => ?_⟩
      · obtain ⟨e1, e2, e3, e4, ⟨e5, e6, e7, e8⟩, e9, e10⟩ := a5 j hj
        by_cases hji : j = i
        · subst hji
          refine ⟨t3, e2, e3, e4, ⟨e5, e6, ?_, ?_⟩, by omega, ?_⟩
          · rcases on2i with q | q <;> omega
          · rcases on2i with q | q <;> omega
          · rcases on2i with q | q <;> omega
        · rw [on2j j hji]
          have hns : q_same B e B (es.getD j 0) = false := by
            cases hsm : q_same B e B (es.getD j 0) with
            | false => rfl
            | true =>
              have := a7 i j hi hj (fun q => hji q.symm)
              rw [same_trans hm hsm] at this
              cases this
          obtain ⟨cA', cO', la', lo', RA', RO', w1, w2, w3, w4, w5, -⟩ := e1
          have := gL_lt hw.1 w2
          have := gL_lt hw.1 w5
          exact ⟨clAt_z (Or.inl hns) (t2 j hj hji), e2, e3, e4, ⟨e5, e6, e7, e8⟩, by omega, by omega⟩
      · refine ⟨?_, (a6 j k hj hk).2⟩
        obtain ⟨e1, e2, e3, e4, e5, e9, e10⟩ := a5 j hj
        by_cases hki : k = i
        · subst hki
          have := (a6 j k hj hk).1
          rcases on2i with q | q <;> omega
        · rw [on2j k hki]
          exact (a6 j k hj hk).1
      · rcases List.mem_append.mp hy with q | q
        · exact a8 y q hsm
        · exact ⟨i, hi, by rw [List.mem_singleton.mp q]; exact hms⟩
    have othc : ∀ j, j < es.length → j ≠ i → clAt E h3 own3 N O ob B T Z (lc.getD j 0) (es.getD j 0) (al j) (on j) := by
      intro j hj hji
      obtain ⟨e1, e2, e3, e4, ⟨e5, e6, e7, e8⟩, e9, e10⟩ := a5 j hj
      have x1 := (a6 j i hj hi).2 hji
      have x2 := (a6 i j hi hj).1
      refine clAt_fr r5 hw.1 e1 ?_ ?_
      · show ¬ (al j = al i ∨ al j = S)
        omega
      · show ¬ (on j = al i ∨ on j = S)
        omega
    refine ⟨fun hx1 => ⟨rfl, ?_⟩, fun hx1 => ⟨rfl, ?_⟩⟩
    · have hlt3 := hex4.mp hx1.2
      rw [if_pos ⟨hx1.1, hlt3⟩, hx1.1, Bool.false_or, decide_eq_true hlt3] at more
      refine hq _ own3 cc cs3 ⟨by rw [hs_ne hfa]; exact fa3, ⟨clS, g0c, g0S, ?_, ?_⟩, ⟨la, gL_8 c3 r3⟩, by omega, lc, es, al, uf on i b, oth _ _ (Or.inr rfl) (gL_8 c3 hcl3) (fun j hj hji => clAt_8 c3 ((a6 j i hj hi).2 hji).2 (othc j hj hji)) ?_ (Nat.le_refl _)⟩ (wOk_8 c3 r4) (fCx_8 c3 (fCx_fr r5 hw.1 hx)) (lFr_8 fr0 (by omega)) ?_ ?_ ?_
      · show cl < h3.1
        omega
      · show S < h3.1
        omega
      · rw [uf_at]
        exact ⟨ca3, cb, la3, lb, q_meet ob RA R, R, by rw [more.2.2]; exact hs_at, gL_8 c3 r1, bR_8 c3 r2, by omega, gL_8 c3 hb3, bR_8 c3 (bR_fr r5 hw.1 hrb), more.1, more.2.1⟩
      · show 5 * h3.1 + cc + cs ≤ _
        omega
      · show h3.2.1 + 4 * cc + 4 * cs ≤ _
        omega
      · exact r12
    · have hzx : zEx ob B (zK B (Z ++ [(e, q_nof w, ce)]) (es.getD i 0)) = zEx ob B (zK B Z (es.getD i 0)) := by
        rw [more.2.2]
        cases hz : zEx ob B (zK B Z (es.getD i 0)) with
        | true => rfl
        | false =>
          rw [Bool.false_or]
          exact decide_eq_false (fun q => hx1 ⟨hz, hex4.mpr q⟩)
      rw [if_neg (fun q => hx1 ⟨q.1, hex4.mpr q.2⟩)] at more
      refine hq _ own3 cc cs3 ⟨fa3, ⟨clS, g0c, g0S, by omega, by omega⟩, ⟨la, r3⟩, by omega, lc, es, al, on, oth _ _ (Or.inl rfl) hcl3 othc ?_ (Nat.le_refl _)⟩ r4 (fCx_fr r5 hw.1 hx) fr0 (by omega) (by omega) r12
      exact ⟨ca3, cO, la3, lo, q_meet ob RA R, RO, by rw [hzx]; exact c3, r1, r2, by omega, ho3, bR_fr r5 hw.1 q6, more.1, more.2.1⟩
end C
