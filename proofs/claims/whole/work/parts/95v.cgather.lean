/-! THE CLASS: Filter.addCondition, Filter.gather -/
section C
variable {E : mmE} {h0 : mmH} {B N O : Nat → Nat} {row n : Nat} {own0 : Nat → Nat} {ob : Nat → Nat → Int32} {P : Nat → Prop} {T fa cl S g0 : Nat}
theorem els_lt (B : Nat → Nat) (e : Nat) (h34 : B e = 3 ∨ B e = 4) : (q_box_els B (q_val B e)).length < sT B 17 e := by
  have : (q_box_els B (q_val B e)).length ≤ (q_pre B 17 (q_val B e)).length := els_len (B := B) 16 (q_val B e)
  unfold sT
  rw [if_pos h34]
  omega
/-- what is known of conditions -/
def zIn (B : Nat → Nat) (z : Nat × Nat × Nat) : Prop := zOk B z ∧ (z.2.1 = 7 → ((q_box_els B (q_val B z.2.2)).map (sT B 17)).sum + 1 = zS B z)
theorem sp_addc {d e ce w lev lim cc cs : Nat} {h : mmH} {own : Nat → Nat} {Z : List (Nat × Nat × Nat)} {Q : Option Value → mmH → Prop} (hd : 13 ≤ d) (hE : sE E) (hw0 : ∀ b, own0 b < h0.1) (hg0 : h0.1 = g0) (hk0 : hOk E h0) (hx0 : fCx h0 row n B N O) (hrow : q_row B n) (hbx : q_box (q_u8 B) B 16 0 n false = true) (hP : ∀ x, P x → x ∈ q_pre B 16 0) (hsub : ∀ x, P x → B x = 3 ∨ B x = 4 → ∀ y ∈ q_box_els B (q_val B x), P y) (hO : oIs ob P O) (hc : oCl ob B) (hT : T ≤ 997)
    (hw : wOk E h own) (hf0 : lFr h0 h own0 own (fun _ => False)) (hf : fSt E h own N O ob B P T fa cl S g0 h.1 cc cs Z) (hnd0 : ndOk h0 row B N O n lev lim ce) (he : P e) (hce : P ce) (hw16 : w ≤ 16) (hnof : q_nof w ≠ 0) (hzs : ∀ z ∈ (q_add B (q_nof w) ce).map (fun x => (e, x)), zIn B z) (hZ : ∀ z ∈ Z ++ (q_add B (q_nof w) ce).map (fun x => (e, x)), ∀ l, q_bnd ob B z.2 = some l → rSd P O l ∧ l.length ≤ zS B z) (hs : ((Z ++ (q_add B (q_nof w) ce).map (fun x => (e, x))).map (zS B)).sum ≤ T) (hZl : (Z ++ (q_add B (q_nof w) ce).map (fun x => (e, x))).length ≤ 100)
    (hq : ∀ h' own' cc' cs', fSt E h' own' N O ob B P T fa cl S g0 h'.1 cc' cs' (Z ++ (q_add B (q_nof w) ce).map (fun x => (e, x))) → wOk E h' own' → lFr h0 h' own0 own' (fun _ => False) → 5 * h'.1 + cc + cs ≤ 5 * h.1 + cc' + cs' + (((q_add B (q_nof w) ce).map (fun x => (e, x))).map (z5 B T)).sum → h'.2.1 + 4 * cc + 4 * cs ≤ h.2.1 + 4 * cc' + 4 * cs' + (((q_add B (q_nof w) ce).map (fun x => (e, x))).map (z4 B T)).sum → h.2.1 ≤ h'.2.1 → Q none h') : mm_Go E d 81 (mm_blk 81 0) [.ref fa, .ref (N e), .ref (N ce), .int (nI w), mm_un, mm_un] [] h Q := by
  have hf' := hf
  obtain ⟨fa1, ⟨clS, g0c, g0S, c1g, S1g⟩, ⟨lsp, hS⟩, hcs, -⟩ := hf'
  have hnd := nd_fr hf0 hk0 hnd0
  have hx := fCx_fr hf0 hk0 hx0
  have hg1 : g0 ≤ h.1 := by rw [← hg0]; exact hf0.1
  have nn : ∀ w, w < 17 → (q_nof w = 7 ↔ w = 15) ∧ (q_nof w = 2 ↔ w = 7) := by decide +kernel
  have hnw := nn w (by omega)
  /- nothing is found -/
  have none0 : (q_add B (q_nof w) ce).map (fun x => (e, x)) = [] → Q none h := by
    intro q
    rw [q] at hq
    rw [List.append_nil] at hq
    exact hq h own cc cs hf hw hf0 (by omega) (by omega) (Nat.le_refl _)
  have nil0 : mm_Go E d 81 (mm_blk 81 2) [.ref fa, .ref (N e), .ref (N ce), .int (nI w), mm_un, mm_un] [.null] h (fun r h' => r = none ∧ h' = h) := by
    repeat (first | refine gc_n3 rfl ?_ | refine gc_n6 rfl ?_ | refine gc_n7 rfl ?_ | refine gc_n8 rfl ?_ | refine gc_n9 rfl ?_ | refine gi_con ?_ | refine gi_bip (Nat.le_of_ble_eq_true rfl) ?_ | refine gi_sip (Nat.le_of_ble_eq_true rfl) ?_ | refine gi_ldc ?_ | refine gi_add ?_ | refine gi_inc rfl ?_ | refine gi_sub (by omega) ?_ | refine gi_mul ?_ | refine go_nx rfl ?_)
    refine gn_nnN ?_
    refine go_rt rfl ?_
    exact ⟨rfl, rfl⟩
  have nil1 : ∀ H : mmH, mm_Go E d 81 (mm_blk 81 2) [.ref fa, .ref (N e), .ref (N ce), .int (nI w), mm_un, mm_un] [.null] H (fun r h' => r = none ∧ h' = H) := by
    intro H
    repeat (first | refine gc_n3 rfl ?_ | refine gc_n6 rfl ?_ | refine gc_n7 rfl ?_ | refine gc_n8 rfl ?_ | refine gc_n9 rfl ?_ | refine gi_con ?_ | refine gi_bip (Nat.le_of_ble_eq_true rfl) ?_ | refine gi_sip (Nat.le_of_ble_eq_true rfl) ?_ | refine gi_ldc ?_ | refine gi_add ?_ | refine gi_inc rfl ?_ | refine gi_sub (by omega) ?_ | refine gi_mul ?_ | refine go_nx rfl ?_)
    refine gn_nnN ?_
    refine go_rt rfl ?_
    exact ⟨rfl, rfl⟩
  /- one condition z -/
  have one : (q_add B (q_nof w) ce).map (fun x => (e, x)) = [(e, q_nof w, ce)] → ∀ (h2 : mmH) (own2 : Nat → Nat) (cs2 : Nat) (lsp2 : List Nat), wOk E h2 own2 → lFr h h2 own own2 (fun b => b = S) → gL E h2 own2 S cs2 lsp2 → cs2 ≤ 2 * T + 10 → 5 * h2.1 + cs ≤ 5 * h.1 + cs2 + 30 * zW B (e, q_nof w, ce) + 27 * zS B (e, q_nof w, ce) + 30 → h2.2.1 + 4 * cs ≤ h.2.1 + 4 * cs2 + 63 * zW B (e, q_nof w, ce) + 27 * zS B (e, q_nof w, ce) + 100 → h.2.1 ≤ h2.2.1 →
      (q_bnd ob B (q_nof w, ce) = none → mm_Go E d 81 (mm_blk 81 2) [.ref fa, .ref (N e), .ref (N ce), .int (nI w), mm_un, mm_un] [.null] h2 Q) ∧ ∀ R, q_bnd ob B (q_nof w, ce) = some R → ∀ b cb lb, h.1 ≤ b → gL E h2 own2 b cb lb → bR h2 N O lb R → mm_Go E d 81 (mm_blk 81 2) [.ref fa, .ref (N e), .ref (N ce), .int (nI w), mm_un, mm_un] [.ref b] h2 Q := by
    intro hz1 h2 own2 cs2 lsp2 w2 f2 s2 c2 r1 r2 r3
    rw [hz1] at hq hZ hs hZl hzs
    have hfr2 : lFr h0 h2 own0 own2 (fun _ => False) := lFr_tm hf0 f2 hw0 (fun b hb q => by omega)
    have hst := fSt_fr f2 hw.1 s2 c2 hf
    have hwz : 1 ≤ zW B (e, q_nof w, ce) := by unfold zW; omega
    have e5 : ([(e, q_nof w, ce)].map (z5 B T)).sum = 30 * zW B (e, q_nof w, ce) + 37 * zS B (e, q_nof w, ce) + 2 * T + 60 := rfl
    have e4 : ([(e, q_nof w, ce)].map (z4 B T)).sum = 63 * zW B (e, q_nof w, ce) + 35 * zS B (e, q_nof w, ce) + 8 * T + 160 := rfl
    rw [e5, e4] at hq
    refine ⟨fun hb => ?_, fun R hb b cb lb p1 p2 p3 => ?_⟩
    · refine go_mono (nil1 h2) (fun r h' q => ?_)
      obtain ⟨q1, q2⟩ := q
      subst q1 q2
      exact hq _ own2 cc cs2 (fSt_none hb (fSt_g f2.1 hst)) w2 hfr2 (by omega) (by omega) r3
    · have hzl := (hZ (e, q_nof w, ce) (List.mem_append_right _ List.mem_cons_self) R hb).2
      repeat (first | refine gc_n3 rfl ?_ | refine gc_n6 rfl ?_ | refine gc_n7 rfl ?_ | refine gc_n8 rfl ?_ | refine gc_n9 rfl ?_ | refine gi_con ?_ | refine gi_bip (Nat.le_of_ble_eq_true rfl) ?_ | refine gi_sip (Nat.le_of_ble_eq_true rfl) ?_ | refine gi_ldc ?_ | refine gi_add ?_ | refine gi_inc rfl ?_ | refine gi_sub (by omega) ?_ | refine gi_mul ?_ | refine go_nx rfl ?_)
      refine gn_nnR ?_
      rw [List.length_append] at hZl
      refine sp_addB3 (g1 := h.1) (by omega) hE w2 hw0 hfr2 hg0 hrow hbx hP hO (fCx_fr f2 hw.1 hx) hst hT (by omega) he hw16 (by omega) p2 p3 p1 hg1 hb hZ hs (fun h3 own3 cc3 cs3 t1 t2 t3 t4 t5 t6 t7 => ?_)
      exact hq h3 own3 cc3 cs3 t1 t2 t4 (by omega) (by omega) (by omega)
  have hzle : (q_add B (q_nof w) ce).map (fun x => (e, x)) = [(e, q_nof w, ce)] → zS B (e, q_nof w, ce) ≤ T := by
    intro q
    rw [q, List.map_append, List.sum_append] at hs
    have hs : _ + (zS B (e, q_nof w, ce) + 0) ≤ T := hs
    omega
  repeat (first | refine gc_n3 rfl ?_ | refine gc_n6 rfl ?_ | refine gc_n7 rfl ?_ | refine gc_n8 rfl ?_ | refine gc_n9 rfl ?_ | refine gi_con ?_ | refine gi_bip (Nat.le_of_ble_eq_true rfl) ?_ | refine gi_sip (Nat.le_of_ble_eq_true rfl) ?_ | refine gi_ldc ?_ | refine gi_add ?_ | refine gi_inc rfl ?_ | refine gi_sub (by omega) ?_ | refine gi_mul ?_ | refine go_nx rfl ?_)
  first | refine gb_lt (by omega) (by omega) (fun c1 => ?_) (fun c1 => ?_) | refine gb_ge (by omega) (by omega) (fun c1 => ?_) (fun c1 => ?_) | refine gb_gt (by omega) (by omega) (fun c1 => ?_) (fun c1 => ?_) | refine gb_le (by omega) (by omega) (fun c1 => ?_) (fun c1 => ?_) | refine gb_eq (by omega) (by omega) (fun c1 => ?_) (fun c1 => ?_) | refine gb_ne (by omega) (by omega) (fun c1 => ?_) (fun c1 => ?_)
  · /- no $elem -/
    have n7 : q_nof w ≠ 7 := fun q => c1 (hnw.1.mp q)
    repeat (first | refine gc_n3 rfl ?_ | refine gc_n6 rfl ?_ | refine gc_n7 rfl ?_ | refine gc_n8 rfl ?_ | refine gc_n9 rfl ?_ | refine gi_con ?_ | refine gi_bip (Nat.le_of_ble_eq_true rfl) ?_ | refine gi_sip (Nat.le_of_ble_eq_true rfl) ?_ | refine gi_ldc ?_ | refine gi_add ?_ | refine gi_inc rfl ?_ | refine gi_sub (by omega) ?_ | refine gi_mul ?_ | refine go_nx rfl ?_)
    refine go_step ?_
    refine g_call (k := 78) rfl (by omega) (Nat.le_of_ble_eq_true rfl) rfl ?_
    have hadd : q_nof w ≤ 6 → (q_add B (q_nof w) ce).map (fun x => (e, x)) = [(e, q_nof w, ce)] := by
      intro q
      unfold q_add
      rw [if_neg (by omega)]
      rfl
    refine sp_bcond2 (k := 17) (by omega) hE hw hrow hO hc hnd hw16 (fun q => ?_) (fun q => ?_) (fun q => ?_)
    · have h2 := hnw.2.mpr q
      have hz := (hzs (e, q_nof w, ce) (by rw [hadd (by omega)]; exact List.mem_cons_self)).1
      have h4 : B ce = 4 := hz.2.2.1 h2
      have := els_lt B ce (Or.inr h4)
      have hl : zS B (e, q_nof w, ce) = sT B 17 ce := rfl
      have := hzle (hadd (by omega))
      exact ⟨h4, hsub ce hce (Or.inr h4), els_lt B ce (Or.inr h4), by omega⟩
    · refine go_jp rfl ?_
      refine go_mono nil0 (fun r h' z => ?_)
      obtain ⟨z1, z2⟩ := z
      subst z1 z2
      refine none0 ?_
      unfold q_add
      rw [if_pos (by omega)]
      rfl
    · intro h2 own2 b1 b2 b3 b4 b5
      have hl : zS B (e, q_nof w, ce) = sT B 17 ce := rfl
      have hwz : 1 ≤ zW B (e, q_nof w, ce) := by unfold zW; omega
      have hS2 := gL_fr b2 hw.1 hS id
      have ob1 := one (hadd q.2) h2 own2 cs lsp b1 (lFr_m b2 hw.2 (fun _ _ z => z.elim)) hS2 hcs (by omega) (by omega) b5
      have hbn : q_bnd ob B (q_nof w, ce) = q_wb ob B (q_nof w) ce := if_neg n7
      rw [hbn] at ob1
      refine ⟨fun z => ?_, fun R z a cap l' p1 p2 p3 p4 => ?_⟩
      · refine go_jp rfl ?_
        exact ob1.1 z
      · refine go_jp rfl ?_
        exact ob1.2 R z a cap l' p1 p2 p3
  · /- $elem -/
    have n7 : q_nof w = 7 := hnw.1.mpr c1
    have hadd : q_ofi B ce = true → (q_add B (q_nof w) ce).map (fun x => (e, x)) = [(e, q_nof w, ce)] := by
      intro q
      unfold q_add
      rw [if_neg (fun z => by rcases z with z | ⟨-, z⟩; exact absurd z (by omega); rw [q] at z; cases z)]
      rfl
    repeat (first | refine gc_n3 rfl ?_ | refine gc_n6 rfl ?_ | refine gc_n7 rfl ?_ | refine gc_n8 rfl ?_ | refine gc_n9 rfl ?_ | refine gi_con ?_ | refine gi_bip (Nat.le_of_ble_eq_true rfl) ?_ | refine gi_sip (Nat.le_of_ble_eq_true rfl) ?_ | refine gi_ldc ?_ | refine gi_add ?_ | refine gi_inc rfl ?_ | refine gi_sub (by omega) ?_ | refine gi_mul ?_ | refine go_nx rfl ?_)
    refine gf_get _ fa1 (by decide) rfl ?_
    refine go_step ?_
    refine g_call (k := 85) rfl (by omega) (Nat.le_of_ble_eq_true rfl) rfl ?_
    refine sp_belem (k := 17) (by omega) hE hw hrow hO hc hnd hS (by omega) (fun q x hxx => ?_) (fun q => ?_) (fun q => ?_) (fun q h2 own2 cs2 lsp2 b1 b2 b3 b4 b5 b6 b7 b8 => ?_)
    · have hz := (hzs (e, q_nof w, ce) (by rw [hadd q]; exact List.mem_cons_self)).1
      obtain ⟨z1, z2⟩ := hz.2.2.2 n7
      have hPx := hsub ce hce (Or.inl (ofi_3 q)) x hxx
      refine ⟨hPx, fun y => ?_⟩
      have h4 := (z2 x hxx).2 y
      exact ⟨h4, by omega, hsub x hPx (Or.inr h4), els_lt B x (Or.inr h4)⟩
    · have hz := (hzs (e, q_nof w, ce) (by rw [hadd q]; exact List.mem_cons_self)).2 n7
      have := hzle (hadd q)
      have hz : ((q_box_els B (q_val B ce)).map (sT B 17)).sum + 1 = zS B (e, q_nof w, ce) := hz
      omega
    · refine go_jp rfl ?_
      refine go_mono nil0 (fun r h' z => ?_)
      obtain ⟨z1, z2⟩ := z
      subst z1 z2
      refine none0 ?_
      unfold q_add
      rw [if_pos (Or.inr ⟨n7, q⟩)]
      rfl
    · have hz := (hzs (e, q_nof w, ce) (by rw [hadd q]; exact List.mem_cons_self)).2 n7
      have hz : ((q_box_els B (q_val B ce)).map (sT B 17)).sum + 1 = zS B (e, q_nof w, ce) := hz
      have hzw : zW B (e, q_nof w, ce) = 1 + (q_box_els B (q_val B ce)).length := by
        unfold zW
        rw [if_pos n7]
      have := hzle (hadd q)
      have ob1 := one (hadd q) h2 own2 cs2 lsp2 b1 b2 b3 (by omega) (by omega) (by omega) b8
      have hbn : q_bnd ob B (q_nof w, ce) = q_we ob B ce := if_pos n7
      rw [hbn] at ob1
      refine ⟨fun z => ?_, fun R z a cap l' p1 p2 p3 p4 => ?_⟩
      · refine go_jp rfl ?_
        exact ob1.1 z
      · refine go_jp rfl ?_
        exact ob1.2 R z a cap l' p1 p2 p3
theorem sp_gather (hE : sE E) (hw0 : ∀ b, own0 b < h0.1) (hg0 : h0.1 = g0) (hk0 : hOk E h0) (hx0 : fCx h0 row n B N O) (hrow : q_row B n) (hbx : q_box (q_u8 B) B 16 0 n false = true) (hP : ∀ x, P x → x ∈ q_pre B 16 0) (hsub : ∀ x, P x → B x = 3 ∨ B x = 4 → ∀ y ∈ q_box_els B (q_val B x), P y) (hO : oIs ob P O) (hc : oCl ob B) (hT : T ≤ 997) :
    ∀ (k d lev v stop dep wa : Nat) (row_ : Bool) (fsw : List Value) (h : mmH) (own : Nat → Nat) (cc cs : Nat) (Z : List (Nat × Nat × Nat)) (Q : Option Value → mmH → Prop), k + 14 ≤ d → q_box (q_u8 B) B lev v stop row_ = true → stop ≤ n → lev ≤ k → dep + lev ≤ 17 → q_gfr B k v → nBox h0 row B N O lev v → (∀ x ∈ q_box_els B v, P x) → h0.2.2 wa = some (.inr (4, fsw)) → fsw[9]? = some (ptr N (q_box_els B v)) → (∀ z ∈ q_colA B k v, zIn B z) → (∀ z ∈ Z ++ q_colA B k v, ∀ l, q_bnd ob B z.2 = some l → rSd P O l ∧ l.length ≤ zS B z) → ((Z ++ q_colA B k v).map (zS B)).sum ≤ T → (Z ++ q_colA B k v).length ≤ 100 → fSt E h own N O ob B P T fa cl S g0 h.1 cc cs Z → wOk E h own → lFr h0 h own0 own (fun _ => False) →
      (∀ h' own' cc' cs', fSt E h' own' N O ob B P T fa cl S g0 h'.1 cc' cs' (Z ++ q_colA B k v) → wOk E h' own' → lFr h0 h' own0 own' (fun _ => False) → 5 * h'.1 + cc + cs ≤ 5 * h.1 + cc' + cs' + ((q_colA B k v).map (z5 B T)).sum → h'.2.1 + 4 * cc + 4 * cs ≤ h.2.1 + 4 * cc' + 4 * cs' + ((q_colA B k v).map (z4 B T)).sum → h.2.1 ≤ h'.2.1 → Q none h') → mm_Go E d 77 (mm_blk 77 0) [.ref fa, .ref wa, .int (nI dep), mm_un, mm_un] [] h Q := by
  intro k
  induction k with
  | zero => intro d lev v stop dep wa row_ fsw h own cc cs Z Q _ _ _ _ _ hg; exact hg.elim
  | succ k ih =>
    intro d lev v stop dep wa row_ fsw h own cc cs Z Q hd hb hst hlk hdl hg hnb hPv hwa h9 hzin hZ hs hZl hf hw hf0 hq
    have hlev := q_box_pos hb
    have hn := hrow.1
    have hndE := box_els2 hrow hst hnb hb
    have hchE := (box_chn (N := N) hrow hb hst).1
    rw [q_colA_s] at hzin hZ hs hZl hq
    /- the elements -/
    have loop : ∀ (L L0 : List Nat) (H : mmH) (own' : Nat → Nat) (cc' cs' : Nat) (x4 : Value), q_box_els B v = L0 ++ L → chn B N (q_last B v) L → fSt E H own' N O ob B P T fa cl S g0 H.1 cc' cs' (Z ++ L0.flatMap (q_colAE B (q_colA B k))) → wOk E H own' → lFr h0 H own0 own' (fun _ => False) → 5 * H.1 + cc + cs ≤ 5 * h.1 + cc' + cs' + ((L0.flatMap (q_colAE B (q_colA B k))).map (z5 B T)).sum → H.2.1 + 4 * cc + 4 * cs ≤ h.2.1 + 4 * cc' + 4 * cs' + ((L0.flatMap (q_colAE B (q_colA B k))).map (z4 B T)).sum → h.2.1 ≤ H.2.1 → mm_Go E d 77 (mm_blk 77 1) [.ref fa, .ref wa, .int (nI dep), ptr N L, x4] [] H Q := by
      intro L
      induction L with
      | nil =>
        intro L0 H own' cc' cs' x4 hL hch g1 g2 g3 g4 g5 g6
        rw [List.append_nil] at hL
        rw [← hL] at g1 g4 g5
        repeat (first | refine gc_n3 rfl ?_ | refine gc_n6 rfl ?_ | refine gc_n7 rfl ?_ | refine gc_n8 rfl ?_ | refine gc_n9 rfl ?_ | refine gi_con ?_ | refine gi_bip (Nat.le_of_ble_eq_true rfl) ?_ | refine gi_sip (Nat.le_of_ble_eq_true rfl) ?_ | refine gi_ldc ?_ | refine gi_add ?_ | refine gi_inc rfl ?_ | refine gi_sub (by omega) ?_ | refine gi_mul ?_ | refine go_nx rfl ?_)
        refine gn_nN ?_
        refine go_rt rfl ?_
        exact hq H own' cc' cs' g1 g2 g3 g4 g5 g6
      | cons e L ihL =>
        intro L0 H own' cc' cs' x4 hL hch g1 g2 g3 g4 g5 g6
        have hee : e ∈ q_box_els B v := by rw [hL]; exact List.mem_append_right _ List.mem_cons_self
        have hnd0 := hndE e hee
        have hPe := hPv e hee
        obtain ⟨ge1, ge2, ge3⟩ := hg e hee
        have hwle := q_word_le B e
        have hsplit : (q_box_els B v).flatMap (q_colAE B (q_colA B k)) = L0.flatMap (q_colAE B (q_colA B k)) ++ (q_colAE B (q_colA B k) e ++ L.flatMap (q_colAE B (q_colA B k))) := by rw [hL, List.flatMap_append, List.flatMap_cons]
        have hsn : (L0 ++ [e]).flatMap (q_colAE B (q_colA B k)) = L0.flatMap (q_colAE B (q_colA B k)) ++ q_colAE B (q_colA B k) e := by rw [List.flatMap_append, List.flatMap_singleton]
        rw [hsplit] at hzin hZ hs hZl
        /- behind the element -/
        have eight : ∀ (H : mmH) (own' : Nat → Nat) (cc' cs' : Nat) (x4 : Value), fSt E H own' N O ob B P T fa cl S g0 H.1 cc' cs' ((Z ++ L0.flatMap (q_colAE B (q_colA B k))) ++ q_colAE B (q_colA B k) e) → wOk E H own' → lFr h0 H own0 own' (fun _ => False) → 5 * H.1 + cc + cs ≤ 5 * h.1 + cc' + cs' + ((L0.flatMap (q_colAE B (q_colA B k))).map (z5 B T)).sum + ((q_colAE B (q_colA B k) e).map (z5 B T)).sum → H.2.1 + 4 * cc + 4 * cs ≤ h.2.1 + 4 * cc' + 4 * cs' + ((L0.flatMap (q_colAE B (q_colA B k))).map (z4 B T)).sum + ((q_colAE B (q_colA B k) e).map (z4 B T)).sum → h.2.1 ≤ H.2.1 → mm_Go E d 77 (mm_blk 77 8) [.ref fa, .ref wa, .int (nI dep), .ref (N e), x4] [] H Q := by
          intro H own' cc' cs' x4 t1 t2 t3 t4 t5 t6
          have hc4 := nd_c (nd_fr t3 hk0 hnd0)
          rw [List.append_assoc, ← hsn] at t1
          have go := ihL (L0 ++ [e]) H own' cc' cs' x4 (by rw [List.append_assoc]; exact hL) hch.2 t1 t2 t3 (by rw [hsn, List.map_append, List.sum_append]; omega) (by rw [hsn, List.map_append, List.sum_append]; omega) t6
          repeat (first | refine gc_n3 rfl ?_ | refine gc_n6 rfl ?_ | refine gc_n7 rfl ?_ | refine gc_n8 rfl ?_ | refine gc_n9 rfl ?_ | refine gi_con ?_ | refine gi_bip (Nat.le_of_ble_eq_true rfl) ?_ | refine gi_sip (Nat.le_of_ble_eq_true rfl) ?_ | refine gi_ldc ?_ | refine gi_add ?_ | refine gi_inc rfl ?_ | refine gi_sub (by omega) ?_ | refine gi_mul ?_ | refine go_nx rfl ?_)
          refine gf_get _ hc4 (by decide) rfl ?_
          rw [hch.1]
          rcases ptr_two N L with z | ⟨z, z'⟩
          · rw [z] at go ⊢
            repeat (first | refine gc_n3 rfl ?_ | refine gc_n6 rfl ?_ | refine gc_n7 rfl ?_ | refine gc_n8 rfl ?_ | refine gc_n9 rfl ?_ | refine gi_con ?_ | refine gi_bip (Nat.le_of_ble_eq_true rfl) ?_ | refine gi_sip (Nat.le_of_ble_eq_true rfl) ?_ | refine gi_ldc ?_ | refine gi_add ?_ | refine gi_inc rfl ?_ | refine gi_sub (by omega) ?_ | refine gi_mul ?_ | refine go_nx rfl ?_)
            refine go_jp rfl ?_
            exact go
          · rw [z'] at go ⊢
            repeat (first | refine gc_n3 rfl ?_ | refine gc_n6 rfl ?_ | refine gc_n7 rfl ?_ | refine gc_n8 rfl ?_ | refine gc_n9 rfl ?_ | refine gi_con ?_ | refine gi_bip (Nat.le_of_ble_eq_true rfl) ?_ | refine gi_sip (Nat.le_of_ble_eq_true rfl) ?_ | refine gi_ldc ?_ | refine gi_add ?_ | refine gi_inc rfl ?_ | refine gi_sub (by omega) ?_ | refine gi_mul ?_ | refine go_nx rfl ?_)
            refine go_jp rfl ?_
            exact go
        have hc3 := nd_c (nd_fr g3 hk0 hnd0)
        /- the parts of what is known -/
        have hZe : ∀ z ∈ (Z ++ L0.flatMap (q_colAE B (q_colA B k))) ++ q_colAE B (q_colA B k) e, ∀ l, q_bnd ob B z.2 = some l → rSd P O l ∧ l.length ≤ zS B z := fun z hz => hZ z (by
          rw [← List.append_assoc, ← List.append_assoc]
          exact List.mem_append_left _ hz)
        have hse : (((Z ++ L0.flatMap (q_colAE B (q_colA B k))) ++ q_colAE B (q_colA B k) e).map (zS B)).sum ≤ T := by
          rw [← List.append_assoc, ← List.append_assoc, List.map_append, List.sum_append] at hs
          omega
        have hle : ((Z ++ L0.flatMap (q_colAE B (q_colA B k))) ++ q_colAE B (q_colA B k) e).length ≤ 100 := by
          rw [← List.append_assoc, ← List.append_assoc, List.length_append] at hZl
          omega
        have hie : ∀ z ∈ q_colAE B (q_colA B k) e, zIn B z := fun z hz => hzin z (List.mem_append_right _ (List.mem_append_left _ hz))
        generalize hZZ : Z ++ L0.flatMap (q_colAE B (q_colA B k)) = ZZ at g1 eight hZe hse hle
        /- a list of pieces, one after the other -/
        repeat (first | refine gc_n3 rfl ?_ | refine gc_n6 rfl ?_ | refine gc_n7 rfl ?_ | refine gc_n8 rfl ?_ | refine gc_n9 rfl ?_ | refine gi_con ?_ | refine gi_bip (Nat.le_of_ble_eq_true rfl) ?_ | refine gi_sip (Nat.le_of_ble_eq_true rfl) ?_ | refine gi_ldc ?_ | refine gi_add ?_ | refine gi_inc rfl ?_ | refine gi_sub (by omega) ?_ | refine gi_mul ?_ | refine go_nx rfl ?_)
        refine gn_nR ?_
        repeat (first | refine gc_n3 rfl ?_ | refine gc_n6 rfl ?_ | refine gc_n7 rfl ?_ | refine gc_n8 rfl ?_ | refine gc_n9 rfl ?_ | refine gi_con ?_ | refine gi_bip (Nat.le_of_ble_eq_true rfl) ?_ | refine gi_sip (Nat.le_of_ble_eq_true rfl) ?_ | refine gi_ldc ?_ | refine gi_add ?_ | refine gi_inc rfl ?_ | refine gi_sub (by omega) ?_ | refine gi_mul ?_ | refine go_nx rfl ?_)
        refine gf_get _ hc3 (by decide) rfl ?_
        repeat (first | refine gc_n3 rfl ?_ | refine gc_n6 rfl ?_ | refine gc_n7 rfl ?_ | refine gc_n8 rfl ?_ | refine gc_n9 rfl ?_ | refine gi_con ?_ | refine gi_bip (Nat.le_of_ble_eq_true rfl) ?_ | refine gi_sip (Nat.le_of_ble_eq_true rfl) ?_ | refine gi_ldc ?_ | refine gi_add ?_ | refine gi_inc rfl ?_ | refine gi_sub (by omega) ?_ | refine gi_mul ?_ | refine go_nx rfl ?_)
        first | refine gb_lt (by omega) (by omega) (fun c1 => ?_) (fun c1 => ?_) | refine gb_ge (by omega) (by omega) (fun c1 => ?_) (fun c1 => ?_) | refine gb_gt (by omega) (by omega) (fun c1 => ?_) (fun c1 => ?_) | refine gb_le (by omega) (by omega) (fun c1 => ?_) (fun c1 => ?_) | refine gb_eq (by omega) (by omega) (fun c1 => ?_) (fun c1 => ?_) | refine gb_ne (by omega) (by omega) (fun c1 => ?_) (fun c1 => ?_)
        rotate_left
        · /- $and -/
          have h4 : B e = 4 := ge1 (by omega)
          have gi := ge2 c1
          obtain ⟨s2, r2, hs2, hb2⟩ := hnd0.2 (Or.inr h4)
          obtain ⟨hndI, hchI, hfiI⟩ := nd_sub hrow hnd0 (Or.inr h4)
          have hcol : q_colAE B (q_colA B k) e = (q_box_els B (q_val B e)).flatMap (fun i => q_colA B k (q_val B i)) := if_pos c1
          rw [hcol] at eight hZe hse hle hie
          have loop2 : ∀ (L2 L1 : List Nat) (H : mmH) (own' : Nat → Nat) (cc' cs' : Nat), q_box_els B (q_val B e) = L1 ++ L2 → chn B N (q_last B (q_val B e)) L2 → fSt E H own' N O ob B P T fa cl S g0 H.1 cc' cs' (ZZ ++ L1.flatMap (fun i => q_colA B k (q_val B i))) → wOk E H own' → lFr h0 H own0 own' (fun _ => False) → 5 * H.1 + cc + cs ≤ 5 * h.1 + cc' + cs' + ((L0.flatMap (q_colAE B (q_colA B k))).map (z5 B T)).sum + ((L1.flatMap (fun i => q_colA B k (q_val B i))).map (z5 B T)).sum → H.2.1 + 4 * cc + 4 * cs ≤ h.2.1 + 4 * cc' + 4 * cs' + ((L0.flatMap (q_colAE B (q_colA B k))).map (z4 B T)).sum + ((L1.flatMap (fun i => q_colA B k (q_val B i))).map (z4 B T)).sum → h.2.1 ≤ H.2.1 → mm_Go E d 77 (mm_blk 77 2) [.ref fa, .ref wa, .int (nI dep), .ref (N e), ptr N L2] [] H Q := by
            intro L2
            induction L2 with
            | nil =>
              intro L1 H own' cc' cs' hL2 hch2 t1 t2 t3 t4 t5 t6
              rw [List.append_nil] at hL2
              rw [← hL2] at t1 t4 t5
              repeat (first | refine gc_n3 rfl ?_ | refine gc_n6 rfl ?_ | refine gc_n7 rfl ?_ | refine gc_n8 rfl ?_ | refine gc_n9 rfl ?_ | refine gi_con ?_ | refine gi_bip (Nat.le_of_ble_eq_true rfl) ?_ | refine gi_sip (Nat.le_of_ble_eq_true rfl) ?_ | refine gi_ldc ?_ | refine gi_add ?_ | refine gi_inc rfl ?_ | refine gi_sub (by omega) ?_ | refine gi_mul ?_ | refine go_nx rfl ?_)
              refine gn_nN ?_
              repeat (first | refine gc_n3 rfl ?_ | refine gc_n6 rfl ?_ | refine gc_n7 rfl ?_ | refine gc_n8 rfl ?_ | refine gc_n9 rfl ?_ | refine gi_con ?_ | refine gi_bip (Nat.le_of_ble_eq_true rfl) ?_ | refine gi_sip (Nat.le_of_ble_eq_true rfl) ?_ | refine gi_ldc ?_ | refine gi_add ?_ | refine gi_inc rfl ?_ | refine gi_sub (by omega) ?_ | refine gi_mul ?_ | refine go_nx rfl ?_)
              refine go_jp rfl ?_
              exact eight H own' cc' cs' .null t1 t2 t3 t4 t5 t6
            | cons i L2 ihL2 =>
              intro L1 H own' cc' cs' hL2 hch2 t1 t2 t3 t4 t5 t6
              have hii : i ∈ q_box_els B (q_val B e) := by rw [hL2]; exact List.mem_append_right _ List.mem_cons_self
              obtain ⟨h3, hgi⟩ := gi i hii
              have hndi := hndI i hii
              obtain ⟨s3, r3, hs3, hb3⟩ := hndi.2 (Or.inl h3)
              obtain ⟨hndJ, hchJ, hfiJ⟩ := nd_sub hrow hndi (Or.inl h3)
              have hPi := hsub e hPe (Or.inr h4) i hii
              have hl3 := q_box_pos hb3
              have hl2 := q_box_pos hb2
              have hsp2 : (q_box_els B (q_val B e)).flatMap (fun i => q_colA B k (q_val B i)) = L1.flatMap (fun i => q_colA B k (q_val B i)) ++ (q_colA B k (q_val B i) ++ L2.flatMap (fun i => q_colA B k (q_val B i))) := by rw [hL2, List.flatMap_append, List.flatMap_cons]
              have hsn2 : (L1 ++ [i]).flatMap (fun i => q_colA B k (q_val B i)) = L1.flatMap (fun i => q_colA B k (q_val B i)) ++ q_colA B k (q_val B i) := by rw [List.flatMap_append, List.flatMap_singleton]
              rw [hsp2] at hZe hse hle hie
              repeat (first | refine gc_n3 rfl ?_ | refine gc_n6 rfl ?_ | refine gc_n7 rfl ?_ | refine gc_n8 rfl ?_ | refine gc_n9 rfl ?_ | refine gi_con ?_ | refine gi_bip (Nat.le_of_ble_eq_true rfl) ?_ | refine gi_sip (Nat.le_of_ble_eq_true rfl) ?_ | refine gi_ldc ?_ | refine gi_add ?_ | refine gi_inc rfl ?_ | refine gi_sub (by omega) ?_ | refine gi_mul ?_ | refine go_nx rfl ?_)
              refine gn_nR ?_
              repeat (first | refine gc_n3 rfl ?_ | refine gc_n6 rfl ?_ | refine gc_n7 rfl ?_ | refine gc_n8 rfl ?_ | refine gc_n9 rfl ?_ | refine gi_con ?_ | refine gi_bip (Nat.le_of_ble_eq_true rfl) ?_ | refine gi_sip (Nat.le_of_ble_eq_true rfl) ?_ | refine gi_ldc ?_ | refine gi_add ?_ | refine gi_inc rfl ?_ | refine gi_sub (by omega) ?_ | refine gi_mul ?_ | refine go_nx rfl ?_)
              refine go_step ?_
              refine g_callV (by decide) (by decide) (Nat.le_of_ble_eq_true rfl) (Nat.le_of_ble_eq_true rfl) (o_rcv t1.1 rfl (by decide)) (by omega) (Nat.le_of_ble_eq_true rfl) rfl ?_
              refine ih (d - 1) (lev - 1 - 1) (q_val B i) s3 (dep + 1) (N i) r3 _ H own' cc' cs' (ZZ ++ L1.flatMap (fun i => q_colA B k (q_val B i))) _ (by omega) hb3 hs3 (by omega) (by omega) hgi (hndi.1.2 (Or.inl h3)) (hsub i hPi (Or.inl h3)) (nd_c hndi) (by rw [← hfiJ]; rfl) (fun z hz => hie z (List.mem_append_right _ (List.mem_append_left _ hz))) (fun z hz => hZe z (by rw [← List.append_assoc, ← List.append_assoc]; exact List.mem_append_left _ hz)) (by rw [← List.append_assoc, ← List.append_assoc, List.map_append, List.sum_append] at hse; omega) (by rw [← List.append_assoc, ← List.append_assoc, List.length_append] at hle; omega) t1 t2 t3 (fun h3' own3 cc3 cs3 u1 u2 u3 u4 u5 u6 => ?_)
              have hci := nd_c (nd_fr u3 hk0 hndi)
              rw [List.append_assoc, ← hsn2] at u1
              have go := ihL2 (L1 ++ [i]) h3' own3 cc3 cs3 (by rw [List.append_assoc]; exact hL2) hch2.2 u1 u2 u3 (by rw [hsn2, List.map_append, List.sum_append]; omega) (by rw [hsn2, List.map_append, List.sum_append]; omega) (by omega)
              repeat (first | refine gc_n3 rfl ?_ | refine gc_n6 rfl ?_ | refine gc_n7 rfl ?_ | refine gc_n8 rfl ?_ | refine gc_n9 rfl ?_ | refine gi_con ?_ | refine gi_bip (Nat.le_of_ble_eq_true rfl) ?_ | refine gi_sip (Nat.le_of_ble_eq_true rfl) ?_ | refine gi_ldc ?_ | refine gi_add ?_ | refine gi_inc rfl ?_ | refine gi_sub (by omega) ?_ | refine gi_mul ?_ | refine go_nx rfl ?_)
              refine gf_get _ hci (by decide) rfl ?_
              rw [hch2.1]
              rcases ptr_two N L2 with z | ⟨z, z'⟩
              · rw [z] at go ⊢
                repeat (first | refine gc_n3 rfl ?_ | refine gc_n6 rfl ?_ | refine gc_n7 rfl ?_ | refine gc_n8 rfl ?_ | refine gc_n9 rfl ?_ | refine gi_con ?_ | refine gi_bip (Nat.le_of_ble_eq_true rfl) ?_ | refine gi_sip (Nat.le_of_ble_eq_true rfl) ?_ | refine gi_ldc ?_ | refine gi_add ?_ | refine gi_inc rfl ?_ | refine gi_sub (by omega) ?_ | refine gi_mul ?_ | refine go_nx rfl ?_)
                refine go_jp rfl ?_
                exact go
              · rw [z'] at go ⊢
                repeat (first | refine gc_n3 rfl ?_ | refine gc_n6 rfl ?_ | refine gc_n7 rfl ?_ | refine gc_n8 rfl ?_ | refine gc_n9 rfl ?_ | refine gi_con ?_ | refine gi_bip (Nat.le_of_ble_eq_true rfl) ?_ | refine gi_sip (Nat.le_of_ble_eq_true rfl) ?_ | refine gi_ldc ?_ | refine gi_add ?_ | refine gi_inc rfl ?_ | refine gi_sub (by omega) ?_ | refine gi_mul ?_ | refine go_nx rfl ?_)
                refine go_jp rfl ?_
                exact go
          repeat (first | refine gc_n3 rfl ?_ | refine gc_n6 rfl ?_ | refine gc_n7 rfl ?_ | refine gc_n8 rfl ?_ | refine gc_n9 rfl ?_ | refine gi_con ?_ | refine gi_bip (Nat.le_of_ble_eq_true rfl) ?_ | refine gi_sip (Nat.le_of_ble_eq_true rfl) ?_ | refine gi_ldc ?_ | refine gi_add ?_ | refine gi_inc rfl ?_ | refine gi_sub (by omega) ?_ | refine gi_mul ?_ | refine go_nx rfl ?_)
          first | refine gb_lt (by omega) (by omega) (fun c2 => ?_) (fun c2 => ?_) | refine gb_ge (by omega) (by omega) (fun c2 => ?_) (fun c2 => ?_) | refine gb_gt (by omega) (by omega) (fun c2 => ?_) (fun c2 => ?_) | refine gb_le (by omega) (by omega) (fun c2 => ?_) (fun c2 => ?_) | refine gb_eq (by omega) (by omega) (fun c2 => ?_) (fun c2 => ?_) | refine gb_ne (by omega) (by omega) (fun c2 => ?_) (fun c2 => ?_)
          · omega
          repeat (first | refine gc_n3 rfl ?_ | refine gc_n6 rfl ?_ | refine gc_n7 rfl ?_ | refine gc_n8 rfl ?_ | refine gc_n9 rfl ?_ | refine gi_con ?_ | refine gi_bip (Nat.le_of_ble_eq_true rfl) ?_ | refine gi_sip (Nat.le_of_ble_eq_true rfl) ?_ | refine gi_ldc ?_ | refine gi_add ?_ | refine gi_inc rfl ?_ | refine gi_sub (by omega) ?_ | refine gi_mul ?_ | refine go_nx rfl ?_)
          refine gf_get _ hc3 (by decide) rfl ?_
          rw [hfiI]
          have go := loop2 (q_box_els B (q_val B e)) [] H own' cc' cs' rfl hchI (by rw [show ([] : List Nat).flatMap (fun i => q_colA B k (q_val B i)) = [] from rfl, List.append_nil]; exact g1) g2 g3 g4 g5 g6
          rcases ptr_two N (q_box_els B (q_val B e)) with z | ⟨z, z'⟩
          · rw [z] at go ⊢
            repeat (first | refine gc_n3 rfl ?_ | refine gc_n6 rfl ?_ | refine gc_n7 rfl ?_ | refine gc_n8 rfl ?_ | refine gc_n9 rfl ?_ | refine gi_con ?_ | refine gi_bip (Nat.le_of_ble_eq_true rfl) ?_ | refine gi_sip (Nat.le_of_ble_eq_true rfl) ?_ | refine gi_ldc ?_ | refine gi_add ?_ | refine gi_inc rfl ?_ | refine gi_sub (by omega) ?_ | refine gi_mul ?_ | refine go_nx rfl ?_)
            refine go_jp rfl ?_
            exact go
          · rw [z'] at go ⊢
            repeat (first | refine gc_n3 rfl ?_ | refine gc_n6 rfl ?_ | refine gc_n7 rfl ?_ | refine gc_n8 rfl ?_ | refine gc_n9 rfl ?_ | refine gi_con ?_ | refine gi_bip (Nat.le_of_ble_eq_true rfl) ?_ | refine gi_sip (Nat.le_of_ble_eq_true rfl) ?_ | refine gi_ldc ?_ | refine gi_add ?_ | refine gi_inc rfl ?_ | refine gi_sub (by omega) ?_ | refine gi_mul ?_ | refine go_nx rfl ?_)
            refine go_jp rfl ?_
            exact go
        repeat (first | refine gc_n3 rfl ?_ | refine gc_n6 rfl ?_ | refine gc_n7 rfl ?_ | refine gc_n8 rfl ?_ | refine gc_n9 rfl ?_ | refine gi_con ?_ | refine gi_bip (Nat.le_of_ble_eq_true rfl) ?_ | refine gi_sip (Nat.le_of_ble_eq_true rfl) ?_ | refine gi_ldc ?_ | refine gi_add ?_ | refine gi_inc rfl ?_ | refine gi_sub (by omega) ?_ | refine gi_mul ?_ | refine go_nx rfl ?_)
        refine gf_get _ hc3 (by decide) rfl ?_
        first | refine gz_eq (by omega) (fun c2 => ?_) (fun c2 => ?_) | refine gz_ne (by omega) (fun c2 => ?_) (fun c2 => ?_) | refine gz_le (by omega) (fun c2 => ?_) (fun c2 => ?_) | refine gz_gt (by omega) (fun c2 => ?_) (fun c2 => ?_) | refine gz_lt (by omega) (fun c2 => ?_) (fun c2 => ?_) | refine gz_ge (by omega) (fun c2 => ?_) (fun c2 => ?_)
        · /- $or, $nor -/
          have h4 := ge1 (show q_word B e ≠ 0 by omega)
          have hcond : ¬ q_cond B e = true := fun q => by have := cond_3 q; omega
          have hcol : q_colAE B (q_colA B k) e = [(e, 1, e)] := by
            unfold q_colAE
            rw [if_neg c1, if_neg hcond]
            unfold q_add
            rw [if_neg (by omega)]
            rfl
          have hbn : q_bnd ob B (1, e) = none := by
            unfold q_bnd
            rw [if_neg (show ¬ (1 : Nat) = 7 by decide)]
            unfold q_wb
            rw [if_neg (show ¬ (1 : Nat) = 2 by decide), if_pos h4]
          rw [hcol] at eight
          repeat (first | refine gc_n3 rfl ?_ | refine gc_n6 rfl ?_ | refine gc_n7 rfl ?_ | refine gc_n8 rfl ?_ | refine gc_n9 rfl ?_ | refine gi_con ?_ | refine gi_bip (Nat.le_of_ble_eq_true rfl) ?_ | refine gi_sip (Nat.le_of_ble_eq_true rfl) ?_ | refine gi_ldc ?_ | refine gi_add ?_ | refine gi_inc rfl ?_ | refine gi_sub (by omega) ?_ | refine gi_mul ?_ | refine go_nx rfl ?_)
          refine gf_get _ hc3 (by decide) rfl ?_
          first | refine gz_eq (by omega) (fun c3 => ?_) (fun c3 => ?_) | refine gz_ne (by omega) (fun c3 => ?_) (fun c3 => ?_) | refine gz_le (by omega) (fun c3 => ?_) (fun c3 => ?_) | refine gz_gt (by omega) (fun c3 => ?_) (fun c3 => ?_) | refine gz_lt (by omega) (fun c3 => ?_) (fun c3 => ?_) | refine gz_ge (by omega) (fun c3 => ?_) (fun c3 => ?_)
          · exact eight H own' cc' cs' x4 (fSt_none hbn g1) g2 g3 (by omega) (by omega) g6
          · omega
        /- a path -/
        repeat (first | refine gc_n3 rfl ?_ | refine gc_n6 rfl ?_ | refine gc_n7 rfl ?_ | refine gc_n8 rfl ?_ | refine gc_n9 rfl ?_ | refine gi_con ?_ | refine gi_bip (Nat.le_of_ble_eq_true rfl) ?_ | refine gi_sip (Nat.le_of_ble_eq_true rfl) ?_ | refine gi_ldc ?_ | refine gi_add ?_ | refine gi_inc rfl ?_ | refine gi_sub (by omega) ?_ | refine gi_mul ?_ | refine go_nx rfl ?_)
        refine go_step ?_
        refine g_callV (by decide) (by decide) (Nat.le_of_ble_eq_true rfl) (Nat.le_of_ble_eq_true rfl) (o_rcv hc3 rfl (by decide)) (by omega) (Nat.le_of_ble_eq_true rfl) rfl ?_
        have hbe : B e = 3 → ∃ s r, s ≤ n ∧ q_box (q_u8 B) B (lev - 1) (q_val B e) s r = true := fun q => hnd0.2 (Or.inl q)
        have hcnd : ∀ Q' : Option Value → mmH → Prop, Q' (some (.int (q_t (q_cond B e)))) H → mm_Go E (d - 1) 61 (mm_blk 61 0) [.ref (N e)] [] H Q' := by
          intro Q' hQ
          by_cases h3 : B e = 3
          · obtain ⟨s3, r3, hs3, hb3⟩ := hbe h3
            exact sp_iscond (nd_fr g3 hk0 hnd0).1 hrow (fun _ => hb3) hs3 hQ
          · exact sp_iscond (u := q_u8 B) (stop := 0) (rw_ := false) (nd_fr g3 hk0 hnd0).1 hrow (fun q => absurd q h3) (Nat.zero_le _) hQ
        refine hcnd _ ?_
        refine gt_eq (fun c3 => ?_) (fun c3 => ?_)
        rotate_left
        · /- conditions -/
          have h3 := cond_3 c3
          obtain ⟨hndI, hchI, hfiI⟩ := nd_sub hrow hnd0 (Or.inl h3)
          have hcol : q_colAE B (q_colA B k) e = (q_box_els B (q_val B e)).flatMap (fun c => (q_add B (q_nof (q_word B c)) c).map (fun ce => (e, ce))) := by
            unfold q_colAE
            rw [if_neg c1, if_pos c3]
          rw [hcol] at eight hZe hse hle hie
          have loop2 : ∀ (L2 L1 : List Nat) (H : mmH) (own' : Nat → Nat) (cc' cs' : Nat), q_box_els B (q_val B e) = L1 ++ L2 → chn B N (q_last B (q_val B e)) L2 → fSt E H own' N O ob B P T fa cl S g0 H.1 cc' cs' (ZZ ++ L1.flatMap (fun c => (q_add B (q_nof (q_word B c)) c).map (fun ce => (e, ce)))) → wOk E H own' → lFr h0 H own0 own' (fun _ => False) → 5 * H.1 + cc + cs ≤ 5 * h.1 + cc' + cs' + ((L0.flatMap (q_colAE B (q_colA B k))).map (z5 B T)).sum + ((L1.flatMap (fun c => (q_add B (q_nof (q_word B c)) c).map (fun ce => (e, ce)))).map (z5 B T)).sum → H.2.1 + 4 * cc + 4 * cs ≤ h.2.1 + 4 * cc' + 4 * cs' + ((L0.flatMap (q_colAE B (q_colA B k))).map (z4 B T)).sum + ((L1.flatMap (fun c => (q_add B (q_nof (q_word B c)) c).map (fun ce => (e, ce)))).map (z4 B T)).sum → h.2.1 ≤ H.2.1 → mm_Go E d 77 (mm_blk 77 5) [.ref fa, .ref wa, .int (nI dep), .ref (N e), ptr N L2] [] H Q := by
            intro L2
            induction L2 with
            | nil =>
              intro L1 H own' cc' cs' hL2 hch2 t1 t2 t3 t4 t5 t6
              rw [List.append_nil] at hL2
              rw [← hL2] at t1 t4 t5
              repeat (first | refine gc_n3 rfl ?_ | refine gc_n6 rfl ?_ | refine gc_n7 rfl ?_ | refine gc_n8 rfl ?_ | refine gc_n9 rfl ?_ | refine gi_con ?_ | refine gi_bip (Nat.le_of_ble_eq_true rfl) ?_ | refine gi_sip (Nat.le_of_ble_eq_true rfl) ?_ | refine gi_ldc ?_ | refine gi_add ?_ | refine gi_inc rfl ?_ | refine gi_sub (by omega) ?_ | refine gi_mul ?_ | refine go_nx rfl ?_)
              refine gn_nN ?_
              repeat (first | refine gc_n3 rfl ?_ | refine gc_n6 rfl ?_ | refine gc_n7 rfl ?_ | refine gc_n8 rfl ?_ | refine gc_n9 rfl ?_ | refine gi_con ?_ | refine gi_bip (Nat.le_of_ble_eq_true rfl) ?_ | refine gi_sip (Nat.le_of_ble_eq_true rfl) ?_ | refine gi_ldc ?_ | refine gi_add ?_ | refine gi_inc rfl ?_ | refine gi_sub (by omega) ?_ | refine gi_mul ?_ | refine go_nx rfl ?_)
              refine go_jp rfl ?_
              exact eight H own' cc' cs' .null t1 t2 t3 t4 t5 t6
            | cons i L2 ihL2 =>
              intro L1 H own' cc' cs' hL2 hch2 t1 t2 t3 t4 t5 t6
              have hii : i ∈ q_box_els B (q_val B e) := by rw [hL2]; exact List.mem_append_right _ List.mem_cons_self
              have hndi := hndI i hii
              have hPi := hsub e hPe (Or.inl h3) i hii
              have hsp2 : (q_box_els B (q_val B e)).flatMap (fun c => (q_add B (q_nof (q_word B c)) c).map (fun ce => (e, ce))) = L1.flatMap (fun c => (q_add B (q_nof (q_word B c)) c).map (fun ce => (e, ce))) ++ ((q_add B (q_nof (q_word B i)) i).map (fun ce => (e, ce)) ++ L2.flatMap (fun c => (q_add B (q_nof (q_word B c)) c).map (fun ce => (e, ce)))) := by rw [hL2, List.flatMap_append, List.flatMap_cons]
              have hsn2 : (L1 ++ [i]).flatMap (fun c => (q_add B (q_nof (q_word B c)) c).map (fun ce => (e, ce))) = L1.flatMap (fun c => (q_add B (q_nof (q_word B c)) c).map (fun ce => (e, ce))) ++ (q_add B (q_nof (q_word B i)) i).map (fun ce => (e, ce)) := by rw [List.flatMap_append, List.flatMap_singleton]
              rw [hsp2] at hZe hse hle hie
              repeat (first | refine gc_n3 rfl ?_ | refine gc_n6 rfl ?_ | refine gc_n7 rfl ?_ | refine gc_n8 rfl ?_ | refine gc_n9 rfl ?_ | refine gi_con ?_ | refine gi_bip (Nat.le_of_ble_eq_true rfl) ?_ | refine gi_sip (Nat.le_of_ble_eq_true rfl) ?_ | refine gi_ldc ?_ | refine gi_add ?_ | refine gi_inc rfl ?_ | refine gi_sub (by omega) ?_ | refine gi_mul ?_ | refine go_nx rfl ?_)
              refine gn_nR ?_
              repeat (first | refine gc_n3 rfl ?_ | refine gc_n6 rfl ?_ | refine gc_n7 rfl ?_ | refine gc_n8 rfl ?_ | refine gc_n9 rfl ?_ | refine gi_con ?_ | refine gi_bip (Nat.le_of_ble_eq_true rfl) ?_ | refine gi_sip (Nat.le_of_ble_eq_true rfl) ?_ | refine gi_ldc ?_ | refine gi_add ?_ | refine gi_inc rfl ?_ | refine gi_sub (by omega) ?_ | refine gi_mul ?_ | refine go_nx rfl ?_)
              refine gf_get _ (nd_c (nd_fr t3 hk0 hndi)) (by decide) rfl ?_
              refine go_step ?_
              refine g_callV (by decide) (by decide) (Nat.le_of_ble_eq_true rfl) (Nat.le_of_ble_eq_true rfl) (o_rcv t1.1 rfl (by decide)) (by omega) (Nat.le_of_ble_eq_true rfl) rfl ?_
              refine sp_addc (by omega) hE hw0 hg0 hk0 hx0 hrow hbx hP hsub hO hc hT t2 t3 t1 hndi hPe hPi (q_word_le B i) (ge3 c3 i hii) (fun z hz => hie z (List.mem_append_right _ (List.mem_append_left _ hz))) (fun z hz => hZe z (by rw [← List.append_assoc, ← List.append_assoc]; exact List.mem_append_left _ hz)) (by rw [← List.append_assoc, ← List.append_assoc, List.map_append, List.sum_append] at hse; omega) (by rw [← List.append_assoc, ← List.append_assoc, List.length_append] at hle; omega) (fun h3' own3 cc3 cs3 u1 u2 u3 u4 u5 u6 => ?_)
              have hci := nd_c (nd_fr u3 hk0 hndi)
              rw [List.append_assoc, ← hsn2] at u1
              have go := ihL2 (L1 ++ [i]) h3' own3 cc3 cs3 (by rw [List.append_assoc]; exact hL2) hch2.2 u1 u2 u3 (by rw [hsn2, List.map_append, List.sum_append]; omega) (by rw [hsn2, List.map_append, List.sum_append]; omega) (by omega)
              repeat (first | refine gc_n3 rfl ?_ | refine gc_n6 rfl ?_ | refine gc_n7 rfl ?_ | refine gc_n8 rfl ?_ | refine gc_n9 rfl ?_ | refine gi_con ?_ | refine gi_bip (Nat.le_of_ble_eq_true rfl) ?_ | refine gi_sip (Nat.le_of_ble_eq_true rfl) ?_ | refine gi_ldc ?_ | refine gi_add ?_ | refine gi_inc rfl ?_ | refine gi_sub (by omega) ?_ | refine gi_mul ?_ | refine go_nx rfl ?_)
              refine gf_get _ hci (by decide) rfl ?_
              rw [hch2.1]
              rcases ptr_two N L2 with z | ⟨z, z'⟩
              · rw [z] at go ⊢
                repeat (first | refine gc_n3 rfl ?_ | refine gc_n6 rfl ?_ | refine gc_n7 rfl ?_ | refine gc_n8 rfl ?_ | refine gc_n9 rfl ?_ | refine gi_con ?_ | refine gi_bip (Nat.le_of_ble_eq_true rfl) ?_ | refine gi_sip (Nat.le_of_ble_eq_true rfl) ?_ | refine gi_ldc ?_ | refine gi_add ?_ | refine gi_inc rfl ?_ | refine gi_sub (by omega) ?_ | refine gi_mul ?_ | refine go_nx rfl ?_)
                refine go_jp rfl ?_
                exact go
              · rw [z'] at go ⊢
                repeat (first | refine gc_n3 rfl ?_ | refine gc_n6 rfl ?_ | refine gc_n7 rfl ?_ | refine gc_n8 rfl ?_ | refine gc_n9 rfl ?_ | refine gi_con ?_ | refine gi_bip (Nat.le_of_ble_eq_true rfl) ?_ | refine gi_sip (Nat.le_of_ble_eq_true rfl) ?_ | refine gi_ldc ?_ | refine gi_add ?_ | refine gi_inc rfl ?_ | refine gi_sub (by omega) ?_ | refine gi_mul ?_ | refine go_nx rfl ?_)
                refine go_jp rfl ?_
                exact go
          repeat (first | refine gc_n3 rfl ?_ | refine gc_n6 rfl ?_ | refine gc_n7 rfl ?_ | refine gc_n8 rfl ?_ | refine gc_n9 rfl ?_ | refine gi_con ?_ | refine gi_bip (Nat.le_of_ble_eq_true rfl) ?_ | refine gi_sip (Nat.le_of_ble_eq_true rfl) ?_ | refine gi_ldc ?_ | refine gi_add ?_ | refine gi_inc rfl ?_ | refine gi_sub (by omega) ?_ | refine gi_mul ?_ | refine go_nx rfl ?_)
          refine gf_get _ hc3 (by decide) rfl ?_
          rw [hfiI]
          have go := loop2 (q_box_els B (q_val B e)) [] H own' cc' cs' rfl hchI (by rw [show ([] : List Nat).flatMap (fun c => (q_add B (q_nof (q_word B c)) c).map (fun ce => (e, ce))) = [] from rfl, List.append_nil]; exact g1) g2 g3 g4 g5 g6
          rcases ptr_two N (q_box_els B (q_val B e)) with z | ⟨z, z'⟩
          · rw [z] at go ⊢
            repeat (first | refine gc_n3 rfl ?_ | refine gc_n6 rfl ?_ | refine gc_n7 rfl ?_ | refine gc_n8 rfl ?_ | refine gc_n9 rfl ?_ | refine gi_con ?_ | refine gi_bip (Nat.le_of_ble_eq_true rfl) ?_ | refine gi_sip (Nat.le_of_ble_eq_true rfl) ?_ | refine gi_ldc ?_ | refine gi_add ?_ | refine gi_inc rfl ?_ | refine gi_sub (by omega) ?_ | refine gi_mul ?_ | refine go_nx rfl ?_)
            refine go_jp rfl ?_
            exact go
          · rw [z'] at go ⊢
            repeat (first | refine gc_n3 rfl ?_ | refine gc_n6 rfl ?_ | refine gc_n7 rfl ?_ | refine gc_n8 rfl ?_ | refine gc_n9 rfl ?_ | refine gi_con ?_ | refine gi_bip (Nat.le_of_ble_eq_true rfl) ?_ | refine gi_sip (Nat.le_of_ble_eq_true rfl) ?_ | refine gi_ldc ?_ | refine gi_add ?_ | refine gi_inc rfl ?_ | refine gi_sub (by omega) ?_ | refine gi_mul ?_ | refine go_nx rfl ?_)
            refine go_jp rfl ?_
            exact go
        /- a value -/
        have hcol : q_colAE B (q_colA B k) e = (q_add B (q_nof 5) e).map (fun ce => (e, ce)) := by
          unfold q_colAE
          rw [if_neg c1, c3]
          exact if_neg (fun q => Bool.noConfusion q)
        rw [hcol] at eight hZe hse hle hie
        repeat (first | refine gc_n3 rfl ?_ | refine gc_n6 rfl ?_ | refine gc_n7 rfl ?_ | refine gc_n8 rfl ?_ | refine gc_n9 rfl ?_ | refine gi_con ?_ | refine gi_bip (Nat.le_of_ble_eq_true rfl) ?_ | refine gi_sip (Nat.le_of_ble_eq_true rfl) ?_ | refine gi_ldc ?_ | refine gi_add ?_ | refine gi_inc rfl ?_ | refine gi_sub (by omega) ?_ | refine gi_mul ?_ | refine go_nx rfl ?_)
        refine gf_get _ hc3 (by decide) rfl ?_
        first | refine gz_eq (by omega) (fun c4 => ?_) (fun c4 => ?_) | refine gz_ne (by omega) (fun c4 => ?_) (fun c4 => ?_) | refine gz_le (by omega) (fun c4 => ?_) (fun c4 => ?_) | refine gz_gt (by omega) (fun c4 => ?_) (fun c4 => ?_) | refine gz_lt (by omega) (fun c4 => ?_) (fun c4 => ?_) | refine gz_ge (by omega) (fun c4 => ?_) (fun c4 => ?_)
        · omega
        repeat (first | refine gc_n3 rfl ?_ | refine gc_n6 rfl ?_ | refine gc_n7 rfl ?_ | refine gc_n8 rfl ?_ | refine gc_n9 rfl ?_ | refine gi_con ?_ | refine gi_bip (Nat.le_of_ble_eq_true rfl) ?_ | refine gi_sip (Nat.le_of_ble_eq_true rfl) ?_ | refine gi_ldc ?_ | refine gi_add ?_ | refine gi_inc rfl ?_ | refine gi_sub (by omega) ?_ | refine gi_mul ?_ | refine go_nx rfl ?_)
        refine go_step ?_
        refine g_callV (by decide) (by decide) (Nat.le_of_ble_eq_true rfl) (Nat.le_of_ble_eq_true rfl) (o_rcv g1.1 rfl (by decide)) (by omega) (Nat.le_of_ble_eq_true rfl) rfl ?_
        refine sp_addc (w := 5) (by omega) hE hw0 hg0 hk0 hx0 hrow hbx hP hsub hO hc hT g2 g3 g1 hnd0 hPe hPe (by omega) (by decide) hie hZe hse hle (fun h3' own3 cc3 cs3 u1 u2 u3 u4 u5 u6 => ?_)
        repeat (first | refine gc_n3 rfl ?_ | refine gc_n6 rfl ?_ | refine gc_n7 rfl ?_ | refine gc_n8 rfl ?_ | refine gc_n9 rfl ?_ | refine gi_con ?_ | refine gi_bip (Nat.le_of_ble_eq_true rfl) ?_ | refine gi_sip (Nat.le_of_ble_eq_true rfl) ?_ | refine gi_ldc ?_ | refine gi_add ?_ | refine gi_inc rfl ?_ | refine gi_sub (by omega) ?_ | refine gi_mul ?_ | refine go_nx rfl ?_)
        refine go_jp rfl ?_
        exact eight h3' own3 cc3 cs3 x4 u1 u2 u3 (by omega) (by omega) (by omega)
    repeat (first | refine gc_n3 rfl ?_ | refine gc_n6 rfl ?_ | refine gc_n7 rfl ?_ | refine gc_n8 rfl ?_ | refine gc_n9 rfl ?_ | refine gi_con ?_ | refine gi_bip (Nat.le_of_ble_eq_true rfl) ?_ | refine gi_sip (Nat.le_of_ble_eq_true rfl) ?_ | refine gi_ldc ?_ | refine gi_add ?_ | refine gi_inc rfl ?_ | refine gi_sub (by omega) ?_ | refine gi_mul ?_ | refine go_nx rfl ?_)
    have hwa' := lFr_obj hf0 hk0 hwa (by decide)
    rw [hwa] at hwa'
    refine gf_get _ hwa' (by decide) h9 ?_
    have go := loop (q_box_els B v) [] h own cc cs mm_un rfl hchE (by rw [show ([] : List Nat).flatMap (q_colAE B (q_colA B k)) = [] from rfl, List.append_nil]; exact hf) hw hf0 (by show _ ≤ _ + 0; omega) (by show _ ≤ _ + 0; omega) (Nat.le_refl _)
    rcases ptr_two N (q_box_els B v) with z | ⟨z, z'⟩
    · rw [z] at go ⊢
      repeat (first | refine gc_n3 rfl ?_ | refine gc_n6 rfl ?_ | refine gc_n7 rfl ?_ | refine gc_n8 rfl ?_ | refine gc_n9 rfl ?_ | refine gi_con ?_ | refine gi_bip (Nat.le_of_ble_eq_true rfl) ?_ | refine gi_sip (Nat.le_of_ble_eq_true rfl) ?_ | refine gi_ldc ?_ | refine gi_add ?_ | refine gi_inc rfl ?_ | refine gi_sub (by omega) ?_ | refine gi_mul ?_ | refine go_nx rfl ?_)
      refine go_jp rfl ?_
      exact go
    · rw [z'] at go ⊢
      repeat (first | refine gc_n3 rfl ?_ | refine gc_n6 rfl ?_ | refine gc_n7 rfl ?_ | refine gc_n8 rfl ?_ | refine gc_n9 rfl ?_ | refine gi_con ?_ | refine gi_bip (Nat.le_of_ble_eq_true rfl) ?_ | refine gi_sip (Nat.le_of_ble_eq_true rfl) ?_ | refine gi_ldc ?_ | refine gi_add ?_ | refine gi_inc rfl ?_ | refine gi_sub (by omega) ?_ | refine gi_mul ?_ | refine go_nx rfl ?_)
      refine go_jp rfl ?_
      exact go
end C
