/-! THE CLASS: the questions -/
section C
variable {E : mmE} {d : Nat} {h : mmH} {Q : Option Value → mmH → Prop} {B N O : Nat → Nat} {row : Nat} {own : Nat → Nat} {ta o : Nat} {t : qB} {F V : Option qB} {X : Nat → Option qX} {pa : Nat} {pl hl : Value} {f : Nat → Int32} {g : Nat → Option Nat}
/-- the same state, no more room -/
def cSm (E : mmE) (h : mmH) (own : Nat → Nat) (o : Nat) (t : qB) (F V : Option qB) (X : Nat → Option qX) (ta pa : Nat) (pl hl : Value) (f : Nat → Int32) (g : Nat → Option Nat) (N O : Nat → Nat) (row : Nat) (B : Nat → Nat) (h' : mmH) : Prop := cIx E h' own o t F V X ta pa pl hl f g N O row B ∧ h'.1 = h.1 ∧ h'.2.1 = h.2.1 ∧ kFr h h' own own ta
theorem cSm_r (hI : cIx E h own o t F V X ta pa pl hl f g N O row B) : cSm E h own o t F V X ta pa pl hl f g N O row B h := ⟨hI, rfl, rfl, kFr_r _ _ _⟩
theorem cSm_t {h1 h2 : mmH} (a : cSm E h own o t F V X ta pa pl hl f g N O row B h1) (b : cSm E h1 own o t F V X ta pa pl hl f g N O row B h2) : cSm E h own o t F V X ta pa pl hl f g N O row B h2 := ⟨b.1, b.2.1.trans a.2.1, b.2.2.1.trans a.2.2.1, kFr_t a.2.2.2 b.2.2.2⟩
theorem cIx_o (hI : cIx E h own o t F V X ta pa pl hl f g N O row B) : h.2.2 o = some (.inr (0, [.ref ta, .ref pa, .int (nI t.1), pl, hl])) := hI.1.1
theorem cIx_rcv (hI : cIx E h own o t F V X ta pa pl hl f g N O row B) : mm_rcv E h 1 (some (.ref o)) = true := o_rcv (cIx_o hI) rfl (by decide)
theorem sp_cmany {i w : Int32} (hd : 6 ≤ d) (hI : cIx E h own o t F V X ta pa pl hl f g N O row B) (hq : ∀ h', cSm E h own o t F V X ta pa pl hl f g N O row B h' → Q (some (.int (a_many F X i w))) h') : mm_Go E d 93 (mm_blk 93 0) [.ref o, .int i, .int w, mm_un, mm_un] [] h Q := by
  have hnone : (q_pth X i w = none ∨ F = none) → a_many F X i w = -2 := by
    intro q
    unfold a_many
    rcases q with q | q
    · rw [q]
    · rw [q]
      cases q_pth X i w <;> rfl
  repeat (first | refine gc_n3 rfl ?_ | refine gc_n6 rfl ?_ | refine gc_n7 rfl ?_ | refine gc_n8 rfl ?_ | refine gc_n9 rfl ?_ | refine gi_con ?_ | refine gi_bip (Nat.le_of_ble_eq_true rfl) ?_ | refine gi_sip (Nat.le_of_ble_eq_true rfl) ?_ | refine gi_ldc ?_ | refine gi_add ?_ | refine gi_inc rfl ?_ | refine gi_sub (by omega) ?_ | refine gi_mul ?_ | refine go_nx rfl ?_)
  refine go_step ?_
  refine g_callV (by decide) (by decide) (Nat.le_of_ble_eq_true rfl) (Nat.le_of_ble_eq_true rfl) (cIx_rcv hI) (by omega) (Nat.le_of_ble_eq_true rfl) rfl ?_
  refine sp_pathAt hI (fun e => ?_) (fun p a k ww e hk hww ei ew hg hs => ?_)
  · have := hq h (cSm_r hI)
    rw [hnone (Or.inl e)] at this
    repeat (first | refine gc_n3 rfl ?_ | refine gc_n6 rfl ?_ | refine gc_n7 rfl ?_ | refine gc_n8 rfl ?_ | refine gc_n9 rfl ?_ | refine gi_con ?_ | refine gi_bip (Nat.le_of_ble_eq_true rfl) ?_ | refine gi_sip (Nat.le_of_ble_eq_true rfl) ?_ | refine gi_ldc ?_ | refine gi_add ?_ | refine gi_inc rfl ?_ | refine gi_sub (by omega) ?_ | refine gi_mul ?_ | refine go_nx rfl ?_)
    refine gn_nN ?_
    repeat (first | refine gc_n3 rfl ?_ | refine gc_n6 rfl ?_ | refine gc_n7 rfl ?_ | refine gc_n8 rfl ?_ | refine gc_n9 rfl ?_ | refine gi_con ?_ | refine gi_bip (Nat.le_of_ble_eq_true rfl) ?_ | refine gi_sip (Nat.le_of_ble_eq_true rfl) ?_ | refine gi_ldc ?_ | refine gi_add ?_ | refine gi_inc rfl ?_ | refine gi_sub (by omega) ?_ | refine gi_mul ?_ | refine go_nx rfl ?_)
    refine go_rt rfl ?_
    exact this
  subst ei ew
  have e2 : q_pt2 X k ww = some p := by rw [← q_pth_2 hk hww]; exact e
  cases hF : F with
  | none =>
    have hpl := hI.2.2.2.2.1 hF
    subst hpl
    have := hq h (cSm_r hI)
    rw [hnone (Or.inr hF)] at this
    repeat (first | refine gc_n3 rfl ?_ | refine gc_n6 rfl ?_ | refine gc_n7 rfl ?_ | refine gc_n8 rfl ?_ | refine gc_n9 rfl ?_ | refine gi_con ?_ | refine gi_bip (Nat.le_of_ble_eq_true rfl) ?_ | refine gi_sip (Nat.le_of_ble_eq_true rfl) ?_ | refine gi_ldc ?_ | refine gi_add ?_ | refine gi_inc rfl ?_ | refine gi_sub (by omega) ?_ | refine gi_mul ?_ | refine go_nx rfl ?_)
    refine gn_nR ?_
    repeat (first | refine gc_n3 rfl ?_ | refine gc_n6 rfl ?_ | refine gc_n7 rfl ?_ | refine gc_n8 rfl ?_ | refine gc_n9 rfl ?_ | refine gi_con ?_ | refine gi_bip (Nat.le_of_ble_eq_true rfl) ?_ | refine gi_sip (Nat.le_of_ble_eq_true rfl) ?_ | refine gi_ldc ?_ | refine gi_add ?_ | refine gi_inc rfl ?_ | refine gi_sub (by omega) ?_ | refine gi_mul ?_ | refine go_nx rfl ?_)
    refine gf_get _ (cIx_o hI) (by decide) rfl ?_
    refine gn_nnN ?_
    repeat (first | refine gc_n3 rfl ?_ | refine gc_n6 rfl ?_ | refine gc_n7 rfl ?_ | refine gc_n8 rfl ?_ | refine gc_n9 rfl ?_ | refine gi_con ?_ | refine gi_bip (Nat.le_of_ble_eq_true rfl) ?_ | refine gi_sip (Nat.le_of_ble_eq_true rfl) ?_ | refine gi_ldc ?_ | refine gi_add ?_ | refine gi_inc rfl ?_ | refine gi_sub (by omega) ?_ | refine gi_mul ?_ | refine go_nx rfl ?_)
    refine go_jp rfl ?_
    repeat (first | refine gc_n3 rfl ?_ | refine gc_n6 rfl ?_ | refine gc_n7 rfl ?_ | refine gc_n8 rfl ?_ | refine gc_n9 rfl ?_ | refine gi_con ?_ | refine gi_bip (Nat.le_of_ble_eq_true rfl) ?_ | refine gi_sip (Nat.le_of_ble_eq_true rfl) ?_ | refine gi_ldc ?_ | refine gi_add ?_ | refine gi_inc rfl ?_ | refine gi_sub (by omega) ?_ | refine gi_mul ?_ | refine go_nx rfl ?_)
    refine go_rt rfl ?_
    exact this
  | some b =>
    obtain ⟨n, B'⟩ := b
    obtain ⟨eB, -, fa, hpl, hfd⟩ := hI.2.2.2.2.2.1 _ hF
    have eB : B' = B := eB
    subst eB
    subst hpl
    repeat (first | refine gc_n3 rfl ?_ | refine gc_n6 rfl ?_ | refine gc_n7 rfl ?_ | refine gc_n8 rfl ?_ | refine gc_n9 rfl ?_ | refine gi_con ?_ | refine gi_bip (Nat.le_of_ble_eq_true rfl) ?_ | refine gi_sip (Nat.le_of_ble_eq_true rfl) ?_ | refine gi_ldc ?_ | refine gi_add ?_ | refine gi_inc rfl ?_ | refine gi_sub (by omega) ?_ | refine gi_mul ?_ | refine go_nx rfl ?_)
    refine gn_nR ?_
    repeat (first | refine gc_n3 rfl ?_ | refine gc_n6 rfl ?_ | refine gc_n7 rfl ?_ | refine gc_n8 rfl ?_ | refine gc_n9 rfl ?_ | refine gi_con ?_ | refine gi_bip (Nat.le_of_ble_eq_true rfl) ?_ | refine gi_sip (Nat.le_of_ble_eq_true rfl) ?_ | refine gi_ldc ?_ | refine gi_add ?_ | refine gi_inc rfl ?_ | refine gi_sub (by omega) ?_ | refine gi_mul ?_ | refine go_nx rfl ?_)
    refine gf_get _ (cIx_o hI) (by decide) rfl ?_
    refine gn_nnR ?_
    repeat (first | refine gc_n3 rfl ?_ | refine gc_n6 rfl ?_ | refine gc_n7 rfl ?_ | refine gc_n8 rfl ?_ | refine gc_n9 rfl ?_ | refine gi_con ?_ | refine gi_bip (Nat.le_of_ble_eq_true rfl) ?_ | refine gi_sip (Nat.le_of_ble_eq_true rfl) ?_ | refine gi_ldc ?_ | refine gi_add ?_ | refine gi_inc rfl ?_ | refine gi_sub (by omega) ?_ | refine gi_mul ?_ | refine go_nx rfl ?_)
    refine gf_get _ (cIx_o hI) (by decide) rfl ?_
    have hrc : mm_rcv E h 2 (some (.ref a)) = true := by
      obtain ⟨nm, seen, kept, q1, -⟩ := hs
      exact o_rcv q1 rfl (by decide)
    refine go_step ?_
    refine g_callV (by decide) (by decide) (Nat.le_of_ble_eq_true rfl) (Nat.le_of_ble_eq_true rfl) hrc (by omega) (Nat.le_of_ble_eq_true rfl) rfl ?_
    refine sp_cbounds (by omega) hI hF hk hww e2 hg rfl (fun v h' hv hI' s1 s2 s3 => ?_)
    have hq := hq h' ⟨hI', s1, s2, s3⟩
    unfold a_many at hq
    rw [e, hF] at hq
    rcases hv with ⟨q1, q2⟩ | ⟨a', cap, l, R, q1, q2, q3, q4⟩
    · subst q2
      have hq : Q (some (.int (match q_find B' p with | some l => nI l.length | none => -1))) h' := hq
      rw [q1] at hq
      repeat (first | refine gc_n3 rfl ?_ | refine gc_n6 rfl ?_ | refine gc_n7 rfl ?_ | refine gc_n8 rfl ?_ | refine gc_n9 rfl ?_ | refine gi_con ?_ | refine gi_bip (Nat.le_of_ble_eq_true rfl) ?_ | refine gi_sip (Nat.le_of_ble_eq_true rfl) ?_ | refine gi_ldc ?_ | refine gi_add ?_ | refine gi_inc rfl ?_ | refine gi_sub (by omega) ?_ | refine gi_mul ?_ | refine go_nx rfl ?_)
      refine gn_nnN ?_
      repeat (first | refine gc_n3 rfl ?_ | refine gc_n6 rfl ?_ | refine gc_n7 rfl ?_ | refine gc_n8 rfl ?_ | refine gc_n9 rfl ?_ | refine gi_con ?_ | refine gi_bip (Nat.le_of_ble_eq_true rfl) ?_ | refine gi_sip (Nat.le_of_ble_eq_true rfl) ?_ | refine gi_ldc ?_ | refine gi_add ?_ | refine gi_inc rfl ?_ | refine gi_sub (by omega) ?_ | refine gi_mul ?_ | refine go_nx rfl ?_)
      refine go_jp rfl ?_
      refine go_rt rfl ?_
      exact hq
    · subst q1
      have hq : Q (some (.int (match q_find B' p with | some l => nI l.length | none => -1))) h' := hq
      rw [q2] at hq
      have hq : Q (some (.int (nI R.length))) h' := hq
      rw [← q4.1] at hq
      repeat (first | refine gc_n3 rfl ?_ | refine gc_n6 rfl ?_ | refine gc_n7 rfl ?_ | refine gc_n8 rfl ?_ | refine gc_n9 rfl ?_ | refine gi_con ?_ | refine gi_bip (Nat.le_of_ble_eq_true rfl) ?_ | refine gi_sip (Nat.le_of_ble_eq_true rfl) ?_ | refine gi_ldc ?_ | refine gi_add ?_ | refine gi_inc rfl ?_ | refine gi_sub (by omega) ?_ | refine gi_mul ?_ | refine go_nx rfl ?_)
      refine gn_nnR ?_
      repeat (first | refine gc_n3 rfl ?_ | refine gc_n6 rfl ?_ | refine gc_n7 rfl ?_ | refine gc_n8 rfl ?_ | refine gc_n9 rfl ?_ | refine gi_con ?_ | refine gi_bip (Nat.le_of_ble_eq_true rfl) ?_ | refine gi_sip (Nat.le_of_ble_eq_true rfl) ?_ | refine gi_ldc ?_ | refine gi_add ?_ | refine gi_inc rfl ?_ | refine gi_sub (by omega) ?_ | refine gi_mul ?_ | refine go_nx rfl ?_)
      refine go_step ?_
      refine g_callV (by decide) (by decide) (Nat.le_of_ble_eq_true rfl) (Nat.le_of_ble_eq_true rfl) (gL_rcv q3) (by omega) (Nat.le_of_ble_eq_true rfl) rfl ?_
      refine sp_lsize q3 ?_
      refine go_jp rfl ?_
      refine go_rt rfl ?_
      exact hq
/-- the rank as the class has it: 0 where there is no index -/
def q_rk0 (F : Option qB) (X : Nat → Option qX) (i : Int32) : Int32 := if (q_pth X i 0).isSome = true then a_rank F X i else 0
theorem sp_crankOf {n fa : Nat} {i : Int32} (hd : 7 ≤ d) (hI : cIx E h own o t F V X ta pa pl hl f g N O row B) (hF : F = some (n, B)) (hpl : pl = .ref fa) (hq : ∀ h', cSm E h own o t F V X ta pa pl hl f g N O row B h' → Q (some (.int (q_rk0 F X i))) h') : mm_Go E d 101 (mm_blk 101 0) [.ref o, .int i, .ref fa, mm_un, mm_un, mm_un] [] h Q := by
  have two0 : q_rk0 F X i = 0 → ∀ h1, cSm E h own o t F V X ta pa pl hl f g N O row B h1 → ∀ x3 : Value, (x3 = .null ∨ ∃ a, x3 = .ref a) → mm_Go E d 101 (mm_blk 101 2) [.ref o, .int i, .ref fa, x3, mm_un, mm_un] [.null] h1 Q := by
    intro e h1 hs x3 hx
    have := hq h1 hs
    rw [e] at this
    rcases hx with q | ⟨a, q⟩
    · subst q
      repeat (first | refine gc_n3 rfl ?_ | refine gc_n6 rfl ?_ | refine gc_n7 rfl ?_ | refine gc_n8 rfl ?_ | refine gc_n9 rfl ?_ | refine gi_con ?_ | refine gi_bip (Nat.le_of_ble_eq_true rfl) ?_ | refine gi_sip (Nat.le_of_ble_eq_true rfl) ?_ | refine gi_ldc ?_ | refine gi_add ?_ | refine gi_inc rfl ?_ | refine gi_sub (by omega) ?_ | refine gi_mul ?_ | refine go_nx rfl ?_)
      refine gn_nnN ?_
      repeat (first | refine gc_n3 rfl ?_ | refine gc_n6 rfl ?_ | refine gc_n7 rfl ?_ | refine gc_n8 rfl ?_ | refine gc_n9 rfl ?_ | refine gi_con ?_ | refine gi_bip (Nat.le_of_ble_eq_true rfl) ?_ | refine gi_sip (Nat.le_of_ble_eq_true rfl) ?_ | refine gi_ldc ?_ | refine gi_add ?_ | refine gi_inc rfl ?_ | refine gi_sub (by omega) ?_ | refine gi_mul ?_ | refine go_nx rfl ?_)
      refine go_rt rfl ?_
      exact this
    · subst q
      repeat (first | refine gc_n3 rfl ?_ | refine gc_n6 rfl ?_ | refine gc_n7 rfl ?_ | refine gc_n8 rfl ?_ | refine gc_n9 rfl ?_ | refine gi_con ?_ | refine gi_bip (Nat.le_of_ble_eq_true rfl) ?_ | refine gi_sip (Nat.le_of_ble_eq_true rfl) ?_ | refine gi_ldc ?_ | refine gi_add ?_ | refine gi_inc rfl ?_ | refine gi_sub (by omega) ?_ | refine gi_mul ?_ | refine go_nx rfl ?_)
      refine gn_nnN ?_
      repeat (first | refine gc_n3 rfl ?_ | refine gc_n6 rfl ?_ | refine gc_n7 rfl ?_ | refine gc_n8 rfl ?_ | refine gc_n9 rfl ?_ | refine gi_con ?_ | refine gi_bip (Nat.le_of_ble_eq_true rfl) ?_ | refine gi_sip (Nat.le_of_ble_eq_true rfl) ?_ | refine gi_ldc ?_ | refine gi_add ?_ | refine gi_inc rfl ?_ | refine gi_sub (by omega) ?_ | refine gi_mul ?_ | refine go_nx rfl ?_)
      refine go_rt rfl ?_
      exact this
  repeat (first | refine gc_n3 rfl ?_ | refine gc_n6 rfl ?_ | refine gc_n7 rfl ?_ | refine gc_n8 rfl ?_ | refine gc_n9 rfl ?_ | refine gi_con ?_ | refine gi_bip (Nat.le_of_ble_eq_true rfl) ?_ | refine gi_sip (Nat.le_of_ble_eq_true rfl) ?_ | refine gi_ldc ?_ | refine gi_add ?_ | refine gi_inc rfl ?_ | refine gi_sub (by omega) ?_ | refine gi_mul ?_ | refine go_nx rfl ?_)
  refine go_step ?_
  refine g_callV (by decide) (by decide) (Nat.le_of_ble_eq_true rfl) (Nat.le_of_ble_eq_true rfl) (cIx_rcv hI) (by omega) (Nat.le_of_ble_eq_true rfl) rfl ?_
  refine sp_pathAt hI (fun e => ?_) (fun p a k ww e hk hww ei ew hg hs => ?_)
  · repeat (first | refine gc_n3 rfl ?_ | refine gc_n6 rfl ?_ | refine gc_n7 rfl ?_ | refine gc_n8 rfl ?_ | refine gc_n9 rfl ?_ | refine gi_con ?_ | refine gi_bip (Nat.le_of_ble_eq_true rfl) ?_ | refine gi_sip (Nat.le_of_ble_eq_true rfl) ?_ | refine gi_ldc ?_ | refine gi_add ?_ | refine gi_inc rfl ?_ | refine gi_sub (by omega) ?_ | refine gi_mul ?_ | refine go_nx rfl ?_)
    refine gn_nnN ?_
    repeat (first | refine gc_n3 rfl ?_ | refine gc_n6 rfl ?_ | refine gc_n7 rfl ?_ | refine gc_n8 rfl ?_ | refine gc_n9 rfl ?_ | refine gi_con ?_ | refine gi_bip (Nat.le_of_ble_eq_true rfl) ?_ | refine gi_sip (Nat.le_of_ble_eq_true rfl) ?_ | refine gi_ldc ?_ | refine gi_add ?_ | refine gi_inc rfl ?_ | refine gi_sub (by omega) ?_ | refine gi_mul ?_ | refine go_nx rfl ?_)
    refine go_jp rfl ?_
    refine two0 ?_ h (cSm_r hI) _ (Or.inl rfl)
    unfold q_rk0
    rw [show q_pth X i 0 = none from e]
    rfl
  have e0 : q_pth X i 0 = some p := e
  have hww0 : ww = 0 := by
    rcases (show ww = 0 ∨ ww = 1 by omega) with q | q
    · exact q
    · rw [q] at ew
      exact absurd ew (by decide)
  subst hww0 ei
  have e2 : q_pt2 X k 0 = some p := by rw [← q_pth_2 hk (by omega)]; exact e0
  have hrc : mm_rcv E h 2 (some (.ref a)) = true := by
    obtain ⟨nm, seen, kept, q1, -⟩ := hs
    exact o_rcv q1 rfl (by decide)
  have hrk : q_rk0 F X (nI k) = match q_find B p with
      | none => 0
      | some l => if q_points B l = false then 1 else match q_pth X (nI k) 1 with
        | some p2 => if (q_find B p2).isSome = true then 3 else 2
        | none => 2 := by
    unfold q_rk0 a_rank
    rw [e0, hF]
    rfl
  repeat (first | refine gc_n3 rfl ?_ | refine gc_n6 rfl ?_ | refine gc_n7 rfl ?_ | refine gc_n8 rfl ?_ | refine gc_n9 rfl ?_ | refine gi_con ?_ | refine gi_bip (Nat.le_of_ble_eq_true rfl) ?_ | refine gi_sip (Nat.le_of_ble_eq_true rfl) ?_ | refine gi_ldc ?_ | refine gi_add ?_ | refine gi_inc rfl ?_ | refine gi_sub (by omega) ?_ | refine gi_mul ?_ | refine go_nx rfl ?_)
  refine gn_nnR ?_
  repeat (first | refine gc_n3 rfl ?_ | refine gc_n6 rfl ?_ | refine gc_n7 rfl ?_ | refine gc_n8 rfl ?_ | refine gc_n9 rfl ?_ | refine gi_con ?_ | refine gi_bip (Nat.le_of_ble_eq_true rfl) ?_ | refine gi_sip (Nat.le_of_ble_eq_true rfl) ?_ | refine gi_ldc ?_ | refine gi_add ?_ | refine gi_inc rfl ?_ | refine gi_sub (by omega) ?_ | refine gi_mul ?_ | refine go_nx rfl ?_)
  refine go_step ?_
  refine g_callV (by decide) (by decide) (Nat.le_of_ble_eq_true rfl) (Nat.le_of_ble_eq_true rfl) hrc (by omega) (Nat.le_of_ble_eq_true rfl) rfl ?_
  refine sp_cbounds (by omega) hI hF hk (by omega) e2 hg hpl (fun v h' hv hI' s1 s2 s3 => ?_)
  have hsm : cSm E h own o t F V X ta pa pl hl f g N O row B h' := ⟨hI', s1, s2, s3⟩
  rcases hv with ⟨q1, q2⟩ | ⟨a', cap, l, R, q1, q2, q3, q4⟩
  · subst q2
    rw [q1] at hrk
    refine go_jp rfl ?_
    exact two0 hrk h' hsm _ (Or.inr ⟨_, rfl⟩)
  subst q1
  rw [q2] at hrk
  have hrk : q_rk0 F X (nI k) = if q_points B R = false then 1 else match q_pth X (nI k) 1 with
    | some p2 => if (q_find B p2).isSome = true then 3 else 2
    | none => 2 := hrk
  obtain ⟨eB, -, fa', hpl', hfd⟩ := hI'.2.2.2.2.2.1 _ hF
  rw [hpl] at hpl'
  cases hpl'
  have hfd0 := hfd
  obtain ⟨hrow, hbx, hflt, hO, hx, -⟩ := hfd0
  have hrow : q_row B n := hrow
  obtain ⟨r1, r2, r3⟩ := find_ok hbx hrow hflt hO q2
  refine go_jp rfl ?_
  repeat (first | refine gc_n3 rfl ?_ | refine gc_n6 rfl ?_ | refine gc_n7 rfl ?_ | refine gc_n8 rfl ?_ | refine gc_n9 rfl ?_ | refine gi_con ?_ | refine gi_bip (Nat.le_of_ble_eq_true rfl) ?_ | refine gi_sip (Nat.le_of_ble_eq_true rfl) ?_ | refine gi_ldc ?_ | refine gi_add ?_ | refine gi_inc rfl ?_ | refine gi_sub (by omega) ?_ | refine gi_mul ?_ | refine go_nx rfl ?_)
  refine gn_nnR ?_
  repeat (first | refine gc_n3 rfl ?_ | refine gc_n6 rfl ?_ | refine gc_n7 rfl ?_ | refine gc_n8 rfl ?_ | refine gc_n9 rfl ?_ | refine gi_con ?_ | refine gi_bip (Nat.le_of_ble_eq_true rfl) ?_ | refine gi_sip (Nat.le_of_ble_eq_true rfl) ?_ | refine gi_ldc ?_ | refine gi_add ?_ | refine gi_inc rfl ?_ | refine gi_sub (by omega) ?_ | refine gi_mul ?_ | refine go_nx rfl ?_)
  refine go_step ?_
  refine g_call (k := 102) rfl (by omega) (Nat.le_of_ble_eq_true rfl) rfl ?_
  refine sp_arePoints (by omega) hbx hO hx q3 q4 r1.1 (by omega) ?_
  refine gt_ne (fun c1 => ?_) (fun c1 => ?_)
  rotate_left
  · rw [if_pos c1] at hrk
    have := hq h' hsm
    rw [hrk] at this
    repeat (first | refine gc_n3 rfl ?_ | refine gc_n6 rfl ?_ | refine gc_n7 rfl ?_ | refine gc_n8 rfl ?_ | refine gc_n9 rfl ?_ | refine gi_con ?_ | refine gi_bip (Nat.le_of_ble_eq_true rfl) ?_ | refine gi_sip (Nat.le_of_ble_eq_true rfl) ?_ | refine gi_ldc ?_ | refine gi_add ?_ | refine gi_inc rfl ?_ | refine gi_sub (by omega) ?_ | refine gi_mul ?_ | refine go_nx rfl ?_)
    refine go_rt rfl ?_
    exact this
  rw [if_neg (by rw [c1]; exact fun q => Bool.noConfusion q)] at hrk
  have five : q_rk0 F X (nI k) = 2 → ∀ h2, cSm E h own o t F V X ta pa pl hl f g N O row B h2 → ∀ x5 : Value, mm_Go E d 101 (mm_blk 101 5) [.ref o, .int (nI k), .ref fa, .ref a, .ref a', x5] [] h2 Q := by
    intro e h2 hs2 x5
    have := hq h2 hs2
    rw [e] at this
    repeat (first | refine gc_n3 rfl ?_ | refine gc_n6 rfl ?_ | refine gc_n7 rfl ?_ | refine gc_n8 rfl ?_ | refine gc_n9 rfl ?_ | refine gi_con ?_ | refine gi_bip (Nat.le_of_ble_eq_true rfl) ?_ | refine gi_sip (Nat.le_of_ble_eq_true rfl) ?_ | refine gi_ldc ?_ | refine gi_add ?_ | refine gi_inc rfl ?_ | refine gi_sub (by omega) ?_ | refine gi_mul ?_ | refine go_nx rfl ?_)
    refine go_jp rfl ?_
    refine go_rt rfl ?_
    exact this
  repeat (first | refine gc_n3 rfl ?_ | refine gc_n6 rfl ?_ | refine gc_n7 rfl ?_ | refine gc_n8 rfl ?_ | refine gc_n9 rfl ?_ | refine gi_con ?_ | refine gi_bip (Nat.le_of_ble_eq_true rfl) ?_ | refine gi_sip (Nat.le_of_ble_eq_true rfl) ?_ | refine gi_ldc ?_ | refine gi_add ?_ | refine gi_inc rfl ?_ | refine gi_sub (by omega) ?_ | refine gi_mul ?_ | refine go_nx rfl ?_)
  refine go_step ?_
  refine g_callV (by decide) (by decide) (Nat.le_of_ble_eq_true rfl) (Nat.le_of_ble_eq_true rfl) (cIx_rcv hI') (by omega) (Nat.le_of_ble_eq_true rfl) rfl ?_
  refine sp_pathAt hI' (fun e => ?_) (fun p2 b k2 ww2 e hk2 hww2 ei2 ew2 hg2 hs2 => ?_)
  · have e1 : q_pth X (nI k) 1 = none := e
    rw [e1] at hrk
    repeat (first | refine gc_n3 rfl ?_ | refine gc_n6 rfl ?_ | refine gc_n7 rfl ?_ | refine gc_n8 rfl ?_ | refine gc_n9 rfl ?_ | refine gi_con ?_ | refine gi_bip (Nat.le_of_ble_eq_true rfl) ?_ | refine gi_sip (Nat.le_of_ble_eq_true rfl) ?_ | refine gi_ldc ?_ | refine gi_add ?_ | refine gi_inc rfl ?_ | refine gi_sub (by omega) ?_ | refine gi_mul ?_ | refine go_nx rfl ?_)
    refine gn_nN ?_
    exact five hrk h' hsm _
  have e1 : q_pth X (nI k) 1 = some p2 := e
  rw [e1] at hrk
  have hrk : q_rk0 F X (nI k) = if (q_find B p2).isSome = true then 3 else 2 := hrk
  have hw1 : ww2 = 1 := by
    rcases (show ww2 = 0 ∨ ww2 = 1 by omega) with q | q
    · rw [q] at ew2
      exact absurd ew2 (by decide)
    · exact q
  have hk2k : k2 = k := by
    have := congrArg Int32.toNatClampNeg ei2
    rw [nI_clamp (by omega), nI_clamp (by omega)] at this
    exact this.symm
  subst hw1 hk2k
  have e22 : q_pt2 X k2 1 = some p2 := by rw [← q_pth_2 hk (by omega)]; exact e1
  have hrc2 : mm_rcv E h' 2 (some (.ref b)) = true := by
    obtain ⟨nm, seen, kept, q1, -⟩ := hs2
    exact o_rcv q1 rfl (by decide)
  repeat (first | refine gc_n3 rfl ?_ | refine gc_n6 rfl ?_ | refine gc_n7 rfl ?_ | refine gc_n8 rfl ?_ | refine gc_n9 rfl ?_ | refine gi_con ?_ | refine gi_bip (Nat.le_of_ble_eq_true rfl) ?_ | refine gi_sip (Nat.le_of_ble_eq_true rfl) ?_ | refine gi_ldc ?_ | refine gi_add ?_ | refine gi_inc rfl ?_ | refine gi_sub (by omega) ?_ | refine gi_mul ?_ | refine go_nx rfl ?_)
  refine gn_nR ?_
  repeat (first | refine gc_n3 rfl ?_ | refine gc_n6 rfl ?_ | refine gc_n7 rfl ?_ | refine gc_n8 rfl ?_ | refine gc_n9 rfl ?_ | refine gi_con ?_ | refine gi_bip (Nat.le_of_ble_eq_true rfl) ?_ | refine gi_sip (Nat.le_of_ble_eq_true rfl) ?_ | refine gi_ldc ?_ | refine gi_add ?_ | refine gi_inc rfl ?_ | refine gi_sub (by omega) ?_ | refine gi_mul ?_ | refine go_nx rfl ?_)
  refine go_step ?_
  refine g_callV (by decide) (by decide) (Nat.le_of_ble_eq_true rfl) (Nat.le_of_ble_eq_true rfl) hrc2 (by omega) (Nat.le_of_ble_eq_true rfl) rfl ?_
  refine sp_cbounds (by omega) hI' hF hk (by omega) e22 hg2 hpl (fun v2 h2 hv2 hI2 s4 s5 s6 => ?_)
  have hsm2 := cSm_t hsm ⟨hI2, s4, s5, s6⟩
  rcases hv2 with ⟨q5, q6⟩ | ⟨a2, cap2, l2, R2, q5, q6, q7, q8⟩
  · subst q6
    rw [q5] at hrk
    refine gn_nnN ?_
    repeat (first | refine gc_n3 rfl ?_ | refine gc_n6 rfl ?_ | refine gc_n7 rfl ?_ | refine gc_n8 rfl ?_ | refine gc_n9 rfl ?_ | refine gi_con ?_ | refine gi_bip (Nat.le_of_ble_eq_true rfl) ?_ | refine gi_sip (Nat.le_of_ble_eq_true rfl) ?_ | refine gi_ldc ?_ | refine gi_add ?_ | refine gi_inc rfl ?_ | refine gi_sub (by omega) ?_ | refine gi_mul ?_ | refine go_nx rfl ?_)
    refine go_jp rfl ?_
    exact five hrk h2 hsm2 _
  · subst q5
    rw [q6] at hrk
    refine gn_nnR ?_
    have := hq h2 hsm2
    rw [hrk] at this
    repeat (first | refine gc_n3 rfl ?_ | refine gc_n6 rfl ?_ | refine gc_n7 rfl ?_ | refine gc_n8 rfl ?_ | refine gc_n9 rfl ?_ | refine gi_con ?_ | refine gi_bip (Nat.le_of_ble_eq_true rfl) ?_ | refine gi_sip (Nat.le_of_ble_eq_true rfl) ?_ | refine gi_ldc ?_ | refine gi_add ?_ | refine gi_inc rfl ?_ | refine gi_sub (by omega) ?_ | refine gi_mul ?_ | refine go_nx rfl ?_)
    refine go_jp rfl ?_
    refine go_rt rfl ?_
    exact this
theorem sp_crank {i : Int32} (hd : 8 ≤ d) (hI : cIx E h own o t F V X ta pa pl hl f g N O row B) (hq : ∀ h', cSm E h own o t F V X ta pa pl hl f g N O row B h' → Q (some (.int (a_rank F X i))) h') : mm_Go E d 100 (mm_blk 100 0) [.ref o, .int i] [] h Q := by
  have one : a_rank F X i = -1 → mm_Go E d 100 (mm_blk 100 1) [.ref o, .int i] [] h Q := by
    intro e
    have := hq h (cSm_r hI)
    rw [e] at this
    repeat (first | refine gc_n3 rfl ?_ | refine gc_n6 rfl ?_ | refine gc_n7 rfl ?_ | refine gc_n8 rfl ?_ | refine gc_n9 rfl ?_ | refine gi_con ?_ | refine gi_bip (Nat.le_of_ble_eq_true rfl) ?_ | refine gi_sip (Nat.le_of_ble_eq_true rfl) ?_ | refine gi_ldc ?_ | refine gi_add ?_ | refine gi_inc rfl ?_ | refine gi_sub (by omega) ?_ | refine gi_mul ?_ | refine go_nx rfl ?_)
    refine go_jp rfl ?_
    refine go_rt rfl ?_
    exact this
  cases hF : F with
  | none =>
    have hpl := hI.2.2.2.2.1 hF
    subst hpl
    repeat (first | refine gc_n3 rfl ?_ | refine gc_n6 rfl ?_ | refine gc_n7 rfl ?_ | refine gc_n8 rfl ?_ | refine gc_n9 rfl ?_ | refine gi_con ?_ | refine gi_bip (Nat.le_of_ble_eq_true rfl) ?_ | refine gi_sip (Nat.le_of_ble_eq_true rfl) ?_ | refine gi_ldc ?_ | refine gi_add ?_ | refine gi_inc rfl ?_ | refine gi_sub (by omega) ?_ | refine gi_mul ?_ | refine go_nx rfl ?_)
    refine gf_get _ (cIx_o hI) (by decide) rfl ?_
    refine gn_nN ?_
    refine one ?_
    unfold a_rank
    rw [hF]
    cases q_pth X i 0 <;> rfl
  | some b =>
    obtain ⟨n, B'⟩ := b
    obtain ⟨eB, -, fa, hpl, hfd⟩ := hI.2.2.2.2.2.1 _ hF
    have eB : B' = B := eB
    subst eB
    subst hpl
    repeat (first | refine gc_n3 rfl ?_ | refine gc_n6 rfl ?_ | refine gc_n7 rfl ?_ | refine gc_n8 rfl ?_ | refine gc_n9 rfl ?_ | refine gi_con ?_ | refine gi_bip (Nat.le_of_ble_eq_true rfl) ?_ | refine gi_sip (Nat.le_of_ble_eq_true rfl) ?_ | refine gi_ldc ?_ | refine gi_add ?_ | refine gi_inc rfl ?_ | refine gi_sub (by omega) ?_ | refine gi_mul ?_ | refine go_nx rfl ?_)
    refine gf_get _ (cIx_o hI) (by decide) rfl ?_
    refine gn_nR ?_
    repeat (first | refine gc_n3 rfl ?_ | refine gc_n6 rfl ?_ | refine gc_n7 rfl ?_ | refine gc_n8 rfl ?_ | refine gc_n9 rfl ?_ | refine gi_con ?_ | refine gi_bip (Nat.le_of_ble_eq_true rfl) ?_ | refine gi_sip (Nat.le_of_ble_eq_true rfl) ?_ | refine gi_ldc ?_ | refine gi_add ?_ | refine gi_inc rfl ?_ | refine gi_sub (by omega) ?_ | refine gi_mul ?_ | refine go_nx rfl ?_)
    refine go_step ?_
    refine g_callV (by decide) (by decide) (Nat.le_of_ble_eq_true rfl) (Nat.le_of_ble_eq_true rfl) (cIx_rcv hI) (by omega) (Nat.le_of_ble_eq_true rfl) rfl ?_
    refine sp_pathAt hI (fun e => ?_) (fun p a k ww e hk hww ei ew hg hs => ?_)
    · refine gn_nnN ?_
      repeat (first | refine gc_n3 rfl ?_ | refine gc_n6 rfl ?_ | refine gc_n7 rfl ?_ | refine gc_n8 rfl ?_ | refine gc_n9 rfl ?_ | refine gi_con ?_ | refine gi_bip (Nat.le_of_ble_eq_true rfl) ?_ | refine gi_sip (Nat.le_of_ble_eq_true rfl) ?_ | refine gi_ldc ?_ | refine gi_add ?_ | refine gi_inc rfl ?_ | refine gi_sub (by omega) ?_ | refine gi_mul ?_ | refine go_nx rfl ?_)
      refine go_jp rfl ?_
      refine one ?_
      unfold a_rank
      rw [show q_pth X i 0 = none from e]
    · refine gn_nnR ?_
      repeat (first | refine gc_n3 rfl ?_ | refine gc_n6 rfl ?_ | refine gc_n7 rfl ?_ | refine gc_n8 rfl ?_ | refine gc_n9 rfl ?_ | refine gi_con ?_ | refine gi_bip (Nat.le_of_ble_eq_true rfl) ?_ | refine gi_sip (Nat.le_of_ble_eq_true rfl) ?_ | refine gi_ldc ?_ | refine gi_add ?_ | refine gi_inc rfl ?_ | refine gi_sub (by omega) ?_ | refine gi_mul ?_ | refine go_nx rfl ?_)
      refine gf_get _ (cIx_o hI) (by decide) rfl ?_
      refine go_step ?_
      refine g_callV (by decide) (by decide) (Nat.le_of_ble_eq_true rfl) (Nat.le_of_ble_eq_true rfl) (cIx_rcv hI) (by omega) (Nat.le_of_ble_eq_true rfl) rfl ?_
      refine sp_crankOf (by omega) hI hF rfl (fun h' hs' => ?_)
      have := hq h' hs'
      rw [show q_rk0 F X i = a_rank F X i from if_pos (by rw [show q_pth X i 0 = some p from e]; rfl)]
      refine go_jp rfl ?_
      refine go_rt rfl ?_
      exact this
theorem sp_crangesOf {i r : Int32} (hd : 7 ≤ d) (hI : cIx E h own o t F V X ta pa pl hl f g N O row B) (hq : ∀ h', cSm E h own o t F V X ta pa pl hl f g N O row B h' → Q (some (.int (if r = 0 then 1 else if r = 3 then a_many F X i 0 * a_many F X i 1 else a_many F X i 0))) h') : mm_Go E d 105 (mm_blk 105 0) [.ref o, .int i, .int r] [] h Q := by
  repeat (first | refine gc_n3 rfl ?_ | refine gc_n6 rfl ?_ | refine gc_n7 rfl ?_ | refine gc_n8 rfl ?_ | refine gc_n9 rfl ?_ | refine gi_con ?_ | refine gi_bip (Nat.le_of_ble_eq_true rfl) ?_ | refine gi_sip (Nat.le_of_ble_eq_true rfl) ?_ | refine gi_ldc ?_ | refine gi_add ?_ | refine gi_inc rfl ?_ | refine gi_sub (by omega) ?_ | refine gi_mul ?_ | refine go_nx rfl ?_)
  refine gx_ne (fun c1 => ?_) (fun c1 => ?_)
  rotate_left
  · have := hq h (cSm_r hI)
    rw [if_pos c1] at this
    repeat (first | refine gc_n3 rfl ?_ | refine gc_n6 rfl ?_ | refine gc_n7 rfl ?_ | refine gc_n8 rfl ?_ | refine gc_n9 rfl ?_ | refine gi_con ?_ | refine gi_bip (Nat.le_of_ble_eq_true rfl) ?_ | refine gi_sip (Nat.le_of_ble_eq_true rfl) ?_ | refine gi_ldc ?_ | refine gi_add ?_ | refine gi_inc rfl ?_ | refine gi_sub (by omega) ?_ | refine gi_mul ?_ | refine go_nx rfl ?_)
    refine go_rt rfl ?_
    exact this
  rw [if_neg c1] at hq
  repeat (first | refine gc_n3 rfl ?_ | refine gc_n6 rfl ?_ | refine gc_n7 rfl ?_ | refine gc_n8 rfl ?_ | refine gc_n9 rfl ?_ | refine gi_con ?_ | refine gi_bip (Nat.le_of_ble_eq_true rfl) ?_ | refine gi_sip (Nat.le_of_ble_eq_true rfl) ?_ | refine gi_ldc ?_ | refine gi_add ?_ | refine gi_inc rfl ?_ | refine gi_sub (by omega) ?_ | refine gi_mul ?_ | refine go_nx rfl ?_)
  refine gy_ne (fun c2 => ?_) (fun c2 => ?_)
  · rw [if_neg (show ¬ r = 3 from c2)] at hq
    repeat (first | refine gc_n3 rfl ?_ | refine gc_n6 rfl ?_ | refine gc_n7 rfl ?_ | refine gc_n8 rfl ?_ | refine gc_n9 rfl ?_ | refine gi_con ?_ | refine gi_bip (Nat.le_of_ble_eq_true rfl) ?_ | refine gi_sip (Nat.le_of_ble_eq_true rfl) ?_ | refine gi_ldc ?_ | refine gi_add ?_ | refine gi_inc rfl ?_ | refine gi_sub (by omega) ?_ | refine gi_mul ?_ | refine go_nx rfl ?_)
    refine go_step ?_
    refine g_callV (by decide) (by decide) (Nat.le_of_ble_eq_true rfl) (Nat.le_of_ble_eq_true rfl) (cIx_rcv hI) (by omega) (Nat.le_of_ble_eq_true rfl) rfl ?_
    refine sp_cmany (w := 0) (by omega) hI (fun h' hs => ?_)
    refine go_jp rfl ?_
    refine go_rt rfl ?_
    exact hq h' hs
  · rw [if_pos (show r = 3 from c2)] at hq
    repeat (first | refine gc_n3 rfl ?_ | refine gc_n6 rfl ?_ | refine gc_n7 rfl ?_ | refine gc_n8 rfl ?_ | refine gc_n9 rfl ?_ | refine gi_con ?_ | refine gi_bip (Nat.le_of_ble_eq_true rfl) ?_ | refine gi_sip (Nat.le_of_ble_eq_true rfl) ?_ | refine gi_ldc ?_ | refine gi_add ?_ | refine gi_inc rfl ?_ | refine gi_sub (by omega) ?_ | refine gi_mul ?_ | refine go_nx rfl ?_)
    refine go_step ?_
    refine g_callV (by decide) (by decide) (Nat.le_of_ble_eq_true rfl) (Nat.le_of_ble_eq_true rfl) (cIx_rcv hI) (by omega) (Nat.le_of_ble_eq_true rfl) rfl ?_
    refine sp_cmany (w := 0) (by omega) hI (fun h' hs => ?_)
    repeat (first | refine gc_n3 rfl ?_ | refine gc_n6 rfl ?_ | refine gc_n7 rfl ?_ | refine gc_n8 rfl ?_ | refine gc_n9 rfl ?_ | refine gi_con ?_ | refine gi_bip (Nat.le_of_ble_eq_true rfl) ?_ | refine gi_sip (Nat.le_of_ble_eq_true rfl) ?_ | refine gi_ldc ?_ | refine gi_add ?_ | refine gi_inc rfl ?_ | refine gi_sub (by omega) ?_ | refine gi_mul ?_ | refine go_nx rfl ?_)
    refine go_step ?_
    refine g_callV (by decide) (by decide) (Nat.le_of_ble_eq_true rfl) (Nat.le_of_ble_eq_true rfl) (cIx_rcv hs.1) (by omega) (Nat.le_of_ble_eq_true rfl) rfl ?_
    refine sp_cmany (w := 1) (by omega) hs.1 (fun h2 hs2 => ?_)
    repeat (first | refine gc_n3 rfl ?_ | refine gc_n6 rfl ?_ | refine gc_n7 rfl ?_ | refine gc_n8 rfl ?_ | refine gc_n9 rfl ?_ | refine gi_con ?_ | refine gi_bip (Nat.le_of_ble_eq_true rfl) ?_ | refine gi_sip (Nat.le_of_ble_eq_true rfl) ?_ | refine gi_ldc ?_ | refine gi_add ?_ | refine gi_inc rfl ?_ | refine gi_sub (by omega) ?_ | refine gi_mul ?_ | refine go_nx rfl ?_)
    refine go_jp rfl ?_
    refine go_rt rfl ?_
    exact hq h2 (cSm_t hs hs2)
theorem rank_n {i : Int32} (hp : (q_pth X i 0).isSome = true) (hF : F.isSome = true) : a_rank F X i ≠ -1 := by
  unfold a_rank
  cases hp' : q_pth X i 0 with
  | none => rw [hp'] at hp; cases hp
  | some p =>
    cases hF' : F with
    | none => rw [hF'] at hF; cases hF
    | some b =>
      show (match q_find b.2 p with
        | none => 0
        | some l => if q_points b.2 l = false then 1 else match q_pth X i 1 with
          | some p2 => if (q_find b.2 p2).isSome = true then 3 else 2
          | none => 2 : Int32) ≠ -1
      split
      · decide
      · split
        · decide
        · split
          · split <;> decide
          · decide
theorem ranges_of {i : Int32} (hp : (q_pth X i 0).isSome = true) (hF : F.isSome = true) : a_ranges F X i = if a_rank F X i = 0 then 1 else if a_rank F X i = 3 then a_many F X i 0 * a_many F X i 1 else a_many F X i 0 := by
  have hn := rank_n hp hF
  unfold a_ranges
  rcases a_rank_in F X i with q | q | q | q | q
  · exact absurd q hn
  all_goals rw [q]; rfl
theorem gc_zle0 {m pc : Nat} {is : List mmI} {L S : List Value} {ex : List Nat} {off : Int} {x : Int32} (h1 : ¬ 0 < x → mm_Go E d m (mm_blk m (mm_k0 ex)) L S h Q) (h2 : 0 < x → mm_Go E d m is L S h Q) : mm_Go E d m ((pc, .ifCond .le off, ex) :: is) L (.int x :: S) h Q := go_br (c := decide (x ≤ 0)) rfl (fun c => h1 (Int32.not_lt.mpr (of_decide_eq_true c))) (fun c => h2 (Int32.not_le.mp (of_decide_eq_false c)))
theorem sp_cranges {i : Int32} (hd : 9 ≤ d) (hI : cIx E h own o t F V X ta pa pl hl f g N O row B) (hq : ∀ h', cSm E h own o t F V X ta pa pl hl f g N O row B h' → Q (some (.int (a_ranges F X i))) h') : mm_Go E d 104 (mm_blk 104 0) [.ref o, .int i] [] h Q := by
  have one : a_rank F X i = -1 → mm_Go E d 104 (mm_blk 104 1) [.ref o, .int i] [] h Q := by
    intro e
    have := hq h (cSm_r hI)
    rw [show a_ranges F X i = -1 by unfold a_ranges; rw [e]; rfl] at this
    repeat (first | refine gc_n3 rfl ?_ | refine gc_n6 rfl ?_ | refine gc_n7 rfl ?_ | refine gc_n8 rfl ?_ | refine gc_n9 rfl ?_ | refine gi_con ?_ | refine gi_bip (Nat.le_of_ble_eq_true rfl) ?_ | refine gi_sip (Nat.le_of_ble_eq_true rfl) ?_ | refine gi_ldc ?_ | refine gi_add ?_ | refine gi_inc rfl ?_ | refine gi_sub (by omega) ?_ | refine gi_mul ?_ | refine go_nx rfl ?_)
    refine go_jp rfl ?_
    refine go_rt rfl ?_
    exact this
  cases hF : F with
  | none =>
    have hpl := hI.2.2.2.2.1 hF
    subst hpl
    repeat (first | refine gc_n3 rfl ?_ | refine gc_n6 rfl ?_ | refine gc_n7 rfl ?_ | refine gc_n8 rfl ?_ | refine gc_n9 rfl ?_ | refine gi_con ?_ | refine gi_bip (Nat.le_of_ble_eq_true rfl) ?_ | refine gi_sip (Nat.le_of_ble_eq_true rfl) ?_ | refine gi_ldc ?_ | refine gi_add ?_ | refine gi_inc rfl ?_ | refine gi_sub (by omega) ?_ | refine gi_mul ?_ | refine go_nx rfl ?_)
    refine gf_get _ (cIx_o hI) (by decide) rfl ?_
    refine gn_nN ?_
    refine one ?_
    unfold a_rank
    rw [hF]
    cases q_pth X i 0 <;> rfl
  | some b =>
    obtain ⟨n, B'⟩ := b
    obtain ⟨eB, -, fa, hpl, hfd⟩ := hI.2.2.2.2.2.1 _ hF
    have eB : B' = B := eB
    subst eB
    subst hpl
    repeat (first | refine gc_n3 rfl ?_ | refine gc_n6 rfl ?_ | refine gc_n7 rfl ?_ | refine gc_n8 rfl ?_ | refine gc_n9 rfl ?_ | refine gi_con ?_ | refine gi_bip (Nat.le_of_ble_eq_true rfl) ?_ | refine gi_sip (Nat.le_of_ble_eq_true rfl) ?_ | refine gi_ldc ?_ | refine gi_add ?_ | refine gi_inc rfl ?_ | refine gi_sub (by omega) ?_ | refine gi_mul ?_ | refine go_nx rfl ?_)
    refine gf_get _ (cIx_o hI) (by decide) rfl ?_
    refine gn_nR ?_
    repeat (first | refine gc_n3 rfl ?_ | refine gc_n6 rfl ?_ | refine gc_n7 rfl ?_ | refine gc_n8 rfl ?_ | refine gc_n9 rfl ?_ | refine gi_con ?_ | refine gi_bip (Nat.le_of_ble_eq_true rfl) ?_ | refine gi_sip (Nat.le_of_ble_eq_true rfl) ?_ | refine gi_ldc ?_ | refine gi_add ?_ | refine gi_inc rfl ?_ | refine gi_sub (by omega) ?_ | refine gi_mul ?_ | refine go_nx rfl ?_)
    refine go_step ?_
    refine g_callV (by decide) (by decide) (Nat.le_of_ble_eq_true rfl) (Nat.le_of_ble_eq_true rfl) (cIx_rcv hI) (by omega) (Nat.le_of_ble_eq_true rfl) rfl ?_
    refine sp_pathAt hI (fun e => ?_) (fun p a k ww e hk hww ei ew hg hs => ?_)
    · refine gn_nnN ?_
      repeat (first | refine gc_n3 rfl ?_ | refine gc_n6 rfl ?_ | refine gc_n7 rfl ?_ | refine gc_n8 rfl ?_ | refine gc_n9 rfl ?_ | refine gi_con ?_ | refine gi_bip (Nat.le_of_ble_eq_true rfl) ?_ | refine gi_sip (Nat.le_of_ble_eq_true rfl) ?_ | refine gi_ldc ?_ | refine gi_add ?_ | refine gi_inc rfl ?_ | refine gi_sub (by omega) ?_ | refine gi_mul ?_ | refine go_nx rfl ?_)
      refine go_jp rfl ?_
      refine one ?_
      unfold a_rank
      rw [show q_pth X i 0 = none from e]
    · have hsome : (q_pth X i 0).isSome = true := by rw [show q_pth X i 0 = some p from e]; rfl
      rw [ranges_of hsome (by rw [hF]; rfl)] at hq
      refine gn_nnR ?_
      repeat (first | refine gc_n3 rfl ?_ | refine gc_n6 rfl ?_ | refine gc_n7 rfl ?_ | refine gc_n8 rfl ?_ | refine gc_n9 rfl ?_ | refine gi_con ?_ | refine gi_bip (Nat.le_of_ble_eq_true rfl) ?_ | refine gi_sip (Nat.le_of_ble_eq_true rfl) ?_ | refine gi_ldc ?_ | refine gi_add ?_ | refine gi_inc rfl ?_ | refine gi_sub (by omega) ?_ | refine gi_mul ?_ | refine go_nx rfl ?_)
      refine gf_get _ (cIx_o hI) (by decide) rfl ?_
      refine go_step ?_
      refine g_callV (by decide) (by decide) (Nat.le_of_ble_eq_true rfl) (Nat.le_of_ble_eq_true rfl) (cIx_rcv hI) (by omega) (Nat.le_of_ble_eq_true rfl) rfl ?_
      refine sp_crankOf (by omega) hI hF rfl (fun h' hs' => ?_)
      rw [show q_rk0 F X i = a_rank F X i from if_pos hsome]
      refine go_step ?_
      refine g_callV (by decide) (by decide) (Nat.le_of_ble_eq_true rfl) (Nat.le_of_ble_eq_true rfl) (cIx_rcv hs'.1) (by omega) (Nat.le_of_ble_eq_true rfl) rfl ?_
      refine sp_crangesOf (by omega) hs'.1 (fun h2 hs2 => ?_)
      refine go_jp rfl ?_
      refine go_rt rfl ?_
      exact hq h2 (cSm_t hs' hs2)
theorem sp_cchoose (hd : 9 ≤ d) (hI : cIx E h own o t F V X ta pa pl hl f g N O row B) (hq : ∀ h', cSm E h own o t F V X ta pa pl hl f g N O row B h' → Q (some (.int (a_choose F X))) h') : mm_Go E d 106 (mm_blk 106 0) [.ref o, mm_un, mm_un, mm_un, mm_un, mm_un, mm_un] [] h Q := by
  cases hF : F with
  | none =>
    have hpl := hI.2.2.2.2.1 hF
    subst hpl
    have := hq h (cSm_r hI)
    rw [show a_choose F X = -2 by unfold a_choose; rw [hF]; rfl] at this
    repeat (first | refine gc_n3 rfl ?_ | refine gc_n6 rfl ?_ | refine gc_n7 rfl ?_ | refine gc_n8 rfl ?_ | refine gc_n9 rfl ?_ | refine gi_con ?_ | refine gi_bip (Nat.le_of_ble_eq_true rfl) ?_ | refine gi_sip (Nat.le_of_ble_eq_true rfl) ?_ | refine gi_ldc ?_ | refine gi_add ?_ | refine gi_inc rfl ?_ | refine gi_sub (by omega) ?_ | refine gi_mul ?_ | refine go_nx rfl ?_)
    refine gf_get _ (cIx_o hI) (by decide) rfl ?_
    refine gn_nnN ?_
    repeat (first | refine gc_n3 rfl ?_ | refine gc_n6 rfl ?_ | refine gc_n7 rfl ?_ | refine gc_n8 rfl ?_ | refine gc_n9 rfl ?_ | refine gi_con ?_ | refine gi_bip (Nat.le_of_ble_eq_true rfl) ?_ | refine gi_sip (Nat.le_of_ble_eq_true rfl) ?_ | refine gi_ldc ?_ | refine gi_add ?_ | refine gi_inc rfl ?_ | refine gi_sub (by omega) ?_ | refine gi_mul ?_ | refine go_nx rfl ?_)
    refine go_rt rfl ?_
    exact this
  | some b =>
    obtain ⟨n, B'⟩ := b
    obtain ⟨eB, -, fa, hpl, hfd⟩ := hI.2.2.2.2.2.1 _ hF
    have eB : B' = B := eB
    subst eB
    subst hpl
    rw [show a_choose F X = q_chs F X 8 0 (-1) by unfold a_choose; rw [hF]; rfl] at hq
    have hXs : ∀ i, i < 8 → (q_pth X (nI i) 0).isSome = (X i).isSome := by
      intro i hi
      rw [q_pth_at hi]
      cases X i <;> rfl
    have loop : ∀ (m i : Nat) (b br fw : Int32) (h1 : mmH) (x5 x6 : Value), m + i = 8 → cSm E h own o t F V X ta pa (.ref fa) hl f g N O row B' h1 → (b < 0 ∧ br = 0 ∨ ¬ b < 0 ∧ br = a_rank F X b ∧ 0 < br ∧ fw = a_ranges F X b) → (∀ h', cSm E h own o t F V X ta pa (.ref fa) hl f g N O row B' h' → Q (some (.int (q_chs F X m i b))) h') → mm_Go E d 106 (mm_blk 106 2) [.ref o, .int b, .int br, .int fw, .int (nI i), x5, x6] [] h1 Q := by
      intro m
      induction m with
      | zero =>
        intro i b br fw h1 x5 x6 hm hs hb hq
        repeat (first | refine gc_n3 rfl ?_ | refine gc_n6 rfl ?_ | refine gc_n7 rfl ?_ | refine gc_n8 rfl ?_ | refine gc_n9 rfl ?_ | refine gi_con ?_ | refine gi_bip (Nat.le_of_ble_eq_true rfl) ?_ | refine gi_sip (Nat.le_of_ble_eq_true rfl) ?_ | refine gi_ldc ?_ | refine gi_add ?_ | refine gi_inc rfl ?_ | refine gi_sub (by omega) ?_ | refine gi_mul ?_ | refine go_nx rfl ?_)
        first | refine gb_lt (by omega) (by omega) (fun c => ?_) (fun c => ?_) | refine gb_ge (by omega) (by omega) (fun c => ?_) (fun c => ?_) | refine gb_gt (by omega) (by omega) (fun c => ?_) (fun c => ?_) | refine gb_le (by omega) (by omega) (fun c => ?_) (fun c => ?_) | refine gb_eq (by omega) (by omega) (fun c => ?_) (fun c => ?_) | refine gb_ne (by omega) (by omega) (fun c => ?_) (fun c => ?_)
        rotate_left
        · omega
        repeat (first | refine gc_n3 rfl ?_ | refine gc_n6 rfl ?_ | refine gc_n7 rfl ?_ | refine gc_n8 rfl ?_ | refine gc_n9 rfl ?_ | refine gi_con ?_ | refine gi_bip (Nat.le_of_ble_eq_true rfl) ?_ | refine gi_sip (Nat.le_of_ble_eq_true rfl) ?_ | refine gi_ldc ?_ | refine gi_add ?_ | refine gi_inc rfl ?_ | refine gi_sub (by omega) ?_ | refine gi_mul ?_ | refine go_nx rfl ?_)
        refine go_rt rfl ?_
        exact hq h1 hs
      | succ m ih =>
        intro i b br fw h1 x5 x6 hm hs hb hq
        have hi : i < 8 := by omega
        have hrk : q_rk0 F X (nI i) = if (X i).isSome = true then a_rank F X (nI i) else 0 := by
          unfold q_rk0
          rw [hXs i hi]
        unfold q_chs at hq
        rw [← hrk] at hq
        repeat (first | refine gc_n3 rfl ?_ | refine gc_n6 rfl ?_ | refine gc_n7 rfl ?_ | refine gc_n8 rfl ?_ | refine gc_n9 rfl ?_ | refine gi_con ?_ | refine gi_bip (Nat.le_of_ble_eq_true rfl) ?_ | refine gi_sip (Nat.le_of_ble_eq_true rfl) ?_ | refine gi_ldc ?_ | refine gi_add ?_ | refine gi_inc rfl ?_ | refine gi_sub (by omega) ?_ | refine gi_mul ?_ | refine go_nx rfl ?_)
        first | refine gb_lt (by omega) (by omega) (fun c => ?_) (fun c => ?_) | refine gb_ge (by omega) (by omega) (fun c => ?_) (fun c => ?_) | refine gb_gt (by omega) (by omega) (fun c => ?_) (fun c => ?_) | refine gb_le (by omega) (by omega) (fun c => ?_) (fun c => ?_) | refine gb_eq (by omega) (by omega) (fun c => ?_) (fun c => ?_) | refine gb_ne (by omega) (by omega) (fun c => ?_) (fun c => ?_)
        · omega
        repeat (first | refine gc_n3 rfl ?_ | refine gc_n6 rfl ?_ | refine gc_n7 rfl ?_ | refine gc_n8 rfl ?_ | refine gc_n9 rfl ?_ | refine gi_con ?_ | refine gi_bip (Nat.le_of_ble_eq_true rfl) ?_ | refine gi_sip (Nat.le_of_ble_eq_true rfl) ?_ | refine gi_ldc ?_ | refine gi_add ?_ | refine gi_inc rfl ?_ | refine gi_sub (by omega) ?_ | refine gi_mul ?_ | refine go_nx rfl ?_)
        refine gf_get _ (cIx_o hs.1) (by decide) rfl ?_
        refine go_step ?_
        refine g_callV (by decide) (by decide) (Nat.le_of_ble_eq_true rfl) (Nat.le_of_ble_eq_true rfl) (cIx_rcv hs.1) (by omega) (Nat.le_of_ble_eq_true rfl) rfl ?_
        refine sp_crankOf (by omega) hs.1 hF rfl (fun h2 hs2 => ?_)
        repeat (first | refine gc_n3 rfl ?_ | refine gc_n6 rfl ?_ | refine gc_n7 rfl ?_ | refine gc_n8 rfl ?_ | refine gc_n9 rfl ?_ | refine gi_con ?_ | refine gi_bip (Nat.le_of_ble_eq_true rfl) ?_ | refine gi_sip (Nat.le_of_ble_eq_true rfl) ?_ | refine gi_ldc ?_ | refine gi_add ?_ | refine gi_inc rfl ?_ | refine gi_sub (by omega) ?_ | refine gi_mul ?_ | refine go_nx rfl ?_)
        refine go_step ?_
        refine g_callV (by decide) (by decide) (Nat.le_of_ble_eq_true rfl) (Nat.le_of_ble_eq_true rfl) (cIx_rcv hs2.1) (by omega) (Nat.le_of_ble_eq_true rfl) rfl ?_
        refine sp_crangesOf (by omega) hs2.1 (fun h3 hs3 => ?_)
        have hs3 := cSm_t hs (cSm_t hs2 hs3)
        generalize hrr : (if q_rk0 F X (nI i) = 0 then (1 : Int32) else if q_rk0 F X (nI i) = 3 then a_many F X (nI i) 0 * a_many F X (nI i) 1 else a_many F X (nI i) 0) = rr
        have hrr2 : 0 < q_rk0 F X (nI i) → rr = a_ranges F X (nI i) ∧ q_rk0 F X (nI i) = a_rank F X (nI i) := by
          intro q
          have hsome : (q_pth X (nI i) 0).isSome = true := by
            cases hp : (q_pth X (nI i) 0).isSome with
            | true => rfl
            | false =>
              unfold q_rk0 at q
              rw [hp, if_neg (fun z => Bool.noConfusion z)] at q
              exact absurd q (by decide)
          have e1 : q_rk0 F X (nI i) = a_rank F X (nI i) := if_pos hsome
          refine ⟨?_, e1⟩
          rw [ranges_of hsome (by rw [hF]; rfl), ← e1]
          exact hrr.symm
        generalize hr : q_rk0 F X (nI i) = r at hq hrr2
        have hrn : ¬ r < 0 := by
          rw [← hr]
          unfold q_rk0
          split
          · rename_i hp
            have := a_rank_in F X (nI i)
            rcases this with q | q | q | q | q
            · exact absurd q (rank_n hp (by rw [hF]; rfl))
            all_goals rw [q]; decide
          · decide
        have four : ∀ (b2 br2 fw2 : Int32), (b2 < 0 ∧ br2 = 0 ∨ ¬ b2 < 0 ∧ br2 = a_rank F X b2 ∧ 0 < br2 ∧ fw2 = a_ranges F X b2) → (∀ h', cSm E h own o t F V X ta pa (.ref fa) hl f g N O row B' h' → Q (some (.int (q_chs F X m (i + 1) b2))) h') → mm_Go E d 106 (mm_blk 106 4) [.ref o, .int b2, .int br2, .int fw2, .int (nI i), .int r, .int rr] [] h3 Q := by
          intro b2 br2 fw2 hb2 hq2
          repeat (first | refine gc_n3 rfl ?_ | refine gc_n6 rfl ?_ | refine gc_n7 rfl ?_ | refine gc_n8 rfl ?_ | refine gc_n9 rfl ?_ | refine gi_con ?_ | refine gi_bip (Nat.le_of_ble_eq_true rfl) ?_ | refine gi_sip (Nat.le_of_ble_eq_true rfl) ?_ | refine gi_ldc ?_ | refine gi_add ?_ | refine gi_inc rfl ?_ | refine gi_sub (by omega) ?_ | refine gi_mul ?_ | refine go_nx rfl ?_)
          refine go_jp rfl ?_
          exact ih (i + 1) b2 br2 fw2 h3 _ _ (by omega) hs3 hb2 hq2
        have three : (0 < r ∧ (b < 0 ∨ a_rank F X b < r ∨ r = a_rank F X b ∧ a_ranges F X (nI i) < a_ranges F X b)) → mm_Go E d 106 (mm_blk 106 3) [.ref o, .int b, .int br, .int fw, .int (nI i), .int r, .int rr] [] h3 Q := by
          intro hc
          rw [if_pos hc] at hq
          obtain ⟨e1, e2⟩ := hrr2 hc.1
          repeat (first | refine gc_n3 rfl ?_ | refine gc_n6 rfl ?_ | refine gc_n7 rfl ?_ | refine gc_n8 rfl ?_ | refine gc_n9 rfl ?_ | refine gi_con ?_ | refine gi_bip (Nat.le_of_ble_eq_true rfl) ?_ | refine gi_sip (Nat.le_of_ble_eq_true rfl) ?_ | refine gi_ldc ?_ | refine gi_add ?_ | refine gi_inc rfl ?_ | refine gi_sub (by omega) ?_ | refine gi_mul ?_ | refine go_nx rfl ?_)
          refine go_jp rfl ?_
          refine four (nI i) r rr (Or.inr ⟨nI_pos (by omega), e2, hc.1, e1⟩) hq
        have no : ¬ (0 < r ∧ (b < 0 ∨ a_rank F X b < r ∨ r = a_rank F X b ∧ a_ranges F X (nI i) < a_ranges F X b)) → mm_Go E d 106 (mm_blk 106 4) [.ref o, .int b, .int br, .int fw, .int (nI i), .int r, .int rr] [] h3 Q := by
          intro hc
          rw [if_neg hc] at hq
          exact four b br fw hb hq
        repeat (first | refine gc_n3 rfl ?_ | refine gc_n6 rfl ?_ | refine gc_n7 rfl ?_ | refine gc_n8 rfl ?_ | refine gc_n9 rfl ?_ | refine gi_con ?_ | refine gi_bip (Nat.le_of_ble_eq_true rfl) ?_ | refine gi_sip (Nat.le_of_ble_eq_true rfl) ?_ | refine gi_ldc ?_ | refine gi_add ?_ | refine gi_inc rfl ?_ | refine gi_sub (by omega) ?_ | refine gi_mul ?_ | refine go_nx rfl ?_)
        refine gy_gt (fun c1 => ?_) (fun c1 => ?_)
        · refine three ?_
          rcases hb with ⟨b1, b2⟩ | ⟨b1, b2, b3, b4⟩
          · rw [b2] at c1
            exact ⟨c1, Or.inl b1⟩
          · exact ⟨Int32.lt_trans b3 c1, Or.inr (Or.inl (by rw [← b2]; exact c1))⟩
        repeat (first | refine gc_n3 rfl ?_ | refine gc_n6 rfl ?_ | refine gc_n7 rfl ?_ | refine gc_n8 rfl ?_ | refine gc_n9 rfl ?_ | refine gi_con ?_ | refine gi_bip (Nat.le_of_ble_eq_true rfl) ?_ | refine gi_sip (Nat.le_of_ble_eq_true rfl) ?_ | refine gi_ldc ?_ | refine gi_add ?_ | refine gi_inc rfl ?_ | refine gi_sub (by omega) ?_ | refine gi_mul ?_ | refine go_nx rfl ?_)
        refine gy_ne (fun c2 => ?_) (fun c2 => ?_)
        · refine no (fun hc => ?_)
          rcases hb with ⟨b1, b2⟩ | ⟨b1, b2, b3, b4⟩
          · rw [b2] at c1
            exact c1 hc.1
          · rcases hc.2 with q | q | q
            · exact b1 q
            · exact c1 (by rw [b2]; exact q)
            · exact c2 (by rw [b2]; exact q.1)
        repeat (first | refine gc_n3 rfl ?_ | refine gc_n6 rfl ?_ | refine gc_n7 rfl ?_ | refine gc_n8 rfl ?_ | refine gc_n9 rfl ?_ | refine gi_con ?_ | refine gi_bip (Nat.le_of_ble_eq_true rfl) ?_ | refine gi_sip (Nat.le_of_ble_eq_true rfl) ?_ | refine gi_ldc ?_ | refine gi_add ?_ | refine gi_inc rfl ?_ | refine gi_sub (by omega) ?_ | refine gi_mul ?_ | refine go_nx rfl ?_)
        refine gc_zle0 (fun c3 => ?_) (fun c3 => ?_)
        · exact no (fun hc => c3 hc.1)
        repeat (first | refine gc_n3 rfl ?_ | refine gc_n6 rfl ?_ | refine gc_n7 rfl ?_ | refine gc_n8 rfl ?_ | refine gc_n9 rfl ?_ | refine gi_con ?_ | refine gi_bip (Nat.le_of_ble_eq_true rfl) ?_ | refine gi_sip (Nat.le_of_ble_eq_true rfl) ?_ | refine gi_ldc ?_ | refine gi_add ?_ | refine gi_inc rfl ?_ | refine gi_sub (by omega) ?_ | refine gi_mul ?_ | refine go_nx rfl ?_)
        refine gy_ge (fun c4 => ?_) (fun c4 => ?_)
        · refine no (fun hc => ?_)
          rcases hb with ⟨b1, b2⟩ | ⟨b1, b2, b3, b4⟩
          · rw [c2, b2] at c3
            exact absurd c3 (by decide)
          · rcases hc.2 with q | q | q
            · exact b1 q
            · exact c1 (by rw [b2]; exact q)
            · rw [b4, (hrr2 c3).1] at c4
              exact absurd q.2 (Int32.not_lt.mpr c4)
        · repeat (first | refine gc_n3 rfl ?_ | refine gc_n6 rfl ?_ | refine gc_n7 rfl ?_ | refine gc_n8 rfl ?_ | refine gc_n9 rfl ?_ | refine gi_con ?_ | refine gi_bip (Nat.le_of_ble_eq_true rfl) ?_ | refine gi_sip (Nat.le_of_ble_eq_true rfl) ?_ | refine gi_ldc ?_ | refine gi_add ?_ | refine gi_inc rfl ?_ | refine gi_sub (by omega) ?_ | refine gi_mul ?_ | refine go_nx rfl ?_)
          refine go_jp rfl ?_
          refine three ⟨c3, ?_⟩
          rcases hb with ⟨b1, b2⟩ | ⟨b1, b2, b3, b4⟩
          · exact Or.inl b1
          · refine Or.inr (Or.inr ⟨by rw [← b2]; exact c2, ?_⟩)
            rw [b4, (hrr2 c3).1] at c4
            exact Int32.not_le.mp c4
    repeat (first | refine gc_n3 rfl ?_ | refine gc_n6 rfl ?_ | refine gc_n7 rfl ?_ | refine gc_n8 rfl ?_ | refine gc_n9 rfl ?_ | refine gi_con ?_ | refine gi_bip (Nat.le_of_ble_eq_true rfl) ?_ | refine gi_sip (Nat.le_of_ble_eq_true rfl) ?_ | refine gi_ldc ?_ | refine gi_add ?_ | refine gi_inc rfl ?_ | refine gi_sub (by omega) ?_ | refine gi_mul ?_ | refine go_nx rfl ?_)
    refine gf_get _ (cIx_o hI) (by decide) rfl ?_
    refine gn_nnR ?_
    repeat (first | refine gc_n3 rfl ?_ | refine gc_n6 rfl ?_ | refine gc_n7 rfl ?_ | refine gc_n8 rfl ?_ | refine gc_n9 rfl ?_ | refine gi_con ?_ | refine gi_bip (Nat.le_of_ble_eq_true rfl) ?_ | refine gi_sip (Nat.le_of_ble_eq_true rfl) ?_ | refine gi_ldc ?_ | refine gi_add ?_ | refine gi_inc rfl ?_ | refine gi_sub (by omega) ?_ | refine gi_mul ?_ | refine go_nx rfl ?_)
    refine go_jp rfl ?_
    exact loop 8 0 (-1) 0 0 h _ _ (by omega) (cSm_r hI) (Or.inl ⟨by decide, rfl⟩) hq
end C
