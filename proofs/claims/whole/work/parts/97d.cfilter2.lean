/-! THE CLASS: filter -/
section C
variable {E : mmE} {d : Nat} {h : mmH} {Q : Option Value → mmH → Prop} {B N O : Nat → Nat} {row : Nat} {own : Nat → Nat} {ta o : Nat} {t : qB} {F V : Option qB} {X : Nat → Option qX} {pa : Nat} {pl hl : Value} {f : Nat → Int32} {g : Nat → Option Nat}
/-- a heap where but the planner itself and what is new nothing changed -/
def oFr (E : mmE) (h h' : mmH) (own own' : Nat → Nat) (o : Nat) : Prop := h.1 ≤ h'.1 ∧ ∀ b, b < h.1 → own' b = own b ∧ (b ≠ o → h'.2.2 b = h.2.2 b)
theorem oFr_k {h' : mmH} {own' : Nat → Nat} (hf : oFr E h h' own own' o) (ho : ∃ fs, h.2.2 o = some (.inr (0, fs))) : kFr h h' own own' ta := ⟨hf.1, fun b hb => ⟨(hf.2 b hb).1, fun _ n2 _ _ => (hf.2 b hb).2 (fun q => by
  obtain ⟨fs, hfs⟩ := ho
  exact n2 fs (by rw [q]; exact hfs))⟩⟩
/-- the state with another filter, or none -/
theorem cIx_plan {h' : mmH} {own' : Nat → Nat} {t' : qB} {F' V' : Option qB} {pl' hl' : Value} {N' O' : Nat → Nat} {row' : Nat} {B' : Nat → Nat} (hI : cIx E h own o t F V X ta pa pl hl f g N O row B) (hf : oFr E h h' own own' o) (hw : wOk E h' own') (hc : h'.2.2 o = some (.inr (0, [.ref ta, .ref pa, .int (nI t'.1), pl', hl']))) (ht : t'.1 = 0)
    (hF0 : F' = none → pl' = .null) (hF1 : ∀ b, F' = some b → b.2 = B' ∧ row' ≠ ta ∧ ∃ fa, pl' = .ref fa ∧ fDat E h' own' fa b.1 B' row' N' O') (hpl : ∀ fa, pl' = .ref fa → h.1 ≤ fa ∨ (pl' = pl ∧ N' = N ∧ O' = O ∧ B' = B)) (hV0 : V' = none → hl' = .null) (hV1 : ∀ v, V' = some v → ∃ a row2, hl' = .ref a ∧ row2 ≠ ta ∧ vDat h' a row2 v) : cIx E h' own' o t' F' V' X ta pa pl' hl' f g N' O' row' B' := by
  obtain ⟨⟨c1, c2⟩, i2, i3, i4, i5, i6, i7, i8, i9, i10⟩ := hI
  have hto : ta ≠ o := fun q => by rw [q, c1] at c2; cases c2
  have hpo : pa ≠ o := fun q => by rw [q, c1] at i4; cases i4
  have hk := oFr_k (ta := ta) hf ⟨_, c1⟩
  have e1 := (hf.2 ta (hOk_lt i2.1 c2)).2 hto
  have e2 := (hf.2 pa (hOk_lt i2.1 i4)).2 hpo
  refine ⟨⟨hc, by rw [e1]; exact c2⟩, hw, ⟨by omega, fun j hj => by omega⟩, by rw [e2]; exact i4, hF0, hF1, hV0, hV1, fun i w hi hw => ⟨(i9 i w hi hw).1, fun p hp => ?_⟩, i10⟩
  obtain ⟨a, s1, nm, seen, kept, q1, q2, q3, q4, q5⟩ := (i9 i w hi hw).2 p hp
  have hao : a ≠ o := fun q => by rw [q, c1] at q1; cases q1
  have hl := hf.1
  refine ⟨a, s1, nm, seen, kept, by rw [(hf.2 a (hOk_lt i2.1 q1)).2 hao]; exact q1, bRow_k hk i2.1 q2 q3, q3, q4.imp_right (fun ⟨s, z1, z2⟩ => ⟨s, z1, Nat.lt_of_lt_of_le z2 hl⟩), fun fa z1 z2 => ?_⟩
  rcases hpl fa z1 with q | ⟨q, qN, qO, qB⟩
  · exfalso
    rcases q4 with z | ⟨s, z, zl⟩
    · rw [z] at z2; cases z2
    · have e : s = fa := by
        rw [z] at z2
        cases z2
        rfl
      rw [e] at zl
      exact absurd zl (Nat.not_lt.mpr q)
  · subst qN qO qB
    exact kOk_k hk i2.1 ⟨f, c2⟩ (q5 fa (by rw [← q]; exact z1) z2)
/-- the room of all conditions -/
theorem z_sum {B : Nat → Nat} {T : Nat} : ∀ (Z : List (Nat × Nat × Nat)), (∀ z ∈ Z, zW B z ≤ zS B z) → (Z.map (z5 B T)).sum ≤ 67 * (Z.map (zS B)).sum + Z.length * (2 * T + 60) ∧ (Z.map (z4 B T)).sum ≤ 98 * (Z.map (zS B)).sum + Z.length * (8 * T + 160) := by
  intro Z
  induction Z with
  | nil => intro _; exact ⟨Nat.zero_le _, Nat.zero_le _⟩
  | cons z Z ih =>
    intro hz
    obtain ⟨i1, i2⟩ := ih (fun y hy => hz y (List.mem_cons_of_mem z hy))
    have h1 := hz z List.mem_cons_self
    simp only [List.map_cons, List.sum_cons, List.length_cons]
    have r1 : (Z.length + 1) * (2 * T + 60) = Z.length * (2 * T + 60) + (2 * T + 60) := Nat.succ_mul _ _
    have r2 : (Z.length + 1) * (8 * T + 160) = Z.length * (8 * T + 160) + (8 * T + 160) := Nat.succ_mul _ _
    rw [r1, r2]
    have e5 : z5 B T z = 30 * zW B z + 37 * zS B z + 2 * T + 60 := rfl
    have e4 : z4 B T z = 63 * zW B z + 35 * zS B z + 8 * T + 160 := rfl
    rw [e5, e4]
    constructor <;> omega
theorem zW_zS {z : Nat × Nat × Nat} (hz : zOk B z) : zW B z ≤ zS B z := by
  unfold zW zS
  split
  · rename_i h7
    have := els_lt B z.2.2 (Or.inl (ofi_3 (hz.2.2.2 h7).1))
    omega
  · unfold sT
    omega
theorem sp_cfilter {n : Int32} (hd : 80 ≤ d) (hE : sE E) (hSt : sStr E) (hI : cIx E h own o t F V X ta pa pl hl f g N O row B) (hq : ∀ h' own', cInv E h' own' o (s_take t n) (s_filter t F n) V X → kFr h h' own own' ta → h'.1 + 36 * (s_take t n).1 ≤ h.1 + 36 * t.1 + 20 → h'.2.1 + 560 * (s_take t n).1 ≤ h.2.1 + 560 * t.1 + 300 → h.2.1 ≤ h'.2.1 → Q (some (.int (a_filter t n))) h') : mm_Go E d 19 (mm_blk 19 0) [.ref o, .int n, mm_un, mm_un, mm_un, mm_un, mm_un] [] h Q := by
  have hI0 := hI
  obtain ⟨⟨c1, c2⟩, i2, i3, i4, i5, i6, i7, i8, i9, i10⟩ := hI
  have hto : ta ≠ o := fun q => by rw [q, c1] at c2; cases c2
  have hol := hOk_lt i2.1 c1
  have htl := hOk_lt i2.1 c2
  unfold s_take s_filter a_filter at hq
  have one : (n < 0 ∨ nI t.1 < n) → mm_Go E d 19 (mm_blk 19 1) [.ref o, .int n, mm_un, mm_un, mm_un, mm_un, mm_un] [] h Q := by
    intro q
    rw [if_pos q, if_pos q, if_pos q] at hq
    repeat (first | refine gc_n3 rfl ?_ | refine gc_n6 rfl ?_ | refine gc_n7 rfl ?_ | refine gc_n8 rfl ?_ | refine gc_n9 rfl ?_ | refine gc_n2 rfl ?_ | refine gc_n5 rfl ?_ | refine gi_con ?_ | refine gi_bip (Nat.le_of_ble_eq_true rfl) ?_ | refine gi_sip (Nat.le_of_ble_eq_true rfl) ?_ | refine gi_ldc ?_ | refine gi_add ?_ | refine gi_inc rfl ?_ | refine gi_sub (by omega) ?_ | refine gi_mul ?_ | refine go_nx rfl ?_)
    refine go_rt rfl ?_
    exact hq h own ⟨_, _, _, _, _, _, _, _, _, _, hI0⟩ (kFr_r _ _ _) (by omega) (by omega) (Nat.le_refl _)
  repeat (first | refine gc_n3 rfl ?_ | refine gc_n6 rfl ?_ | refine gc_n7 rfl ?_ | refine gc_n8 rfl ?_ | refine gc_n9 rfl ?_ | refine gc_n2 rfl ?_ | refine gc_n5 rfl ?_ | refine gi_con ?_ | refine gi_bip (Nat.le_of_ble_eq_true rfl) ?_ | refine gi_sip (Nat.le_of_ble_eq_true rfl) ?_ | refine gi_ldc ?_ | refine gi_add ?_ | refine gi_inc rfl ?_ | refine gi_sub (by omega) ?_ | refine gi_mul ?_ | refine go_nx rfl ?_)
  refine gx_lt (fun d1 => one (Or.inl d1)) (fun d1 => ?_)
  repeat (first | refine gc_n3 rfl ?_ | refine gc_n6 rfl ?_ | refine gc_n7 rfl ?_ | refine gc_n8 rfl ?_ | refine gc_n9 rfl ?_ | refine gc_n2 rfl ?_ | refine gc_n5 rfl ?_ | refine gi_con ?_ | refine gi_bip (Nat.le_of_ble_eq_true rfl) ?_ | refine gi_sip (Nat.le_of_ble_eq_true rfl) ?_ | refine gi_ldc ?_ | refine gi_add ?_ | refine gi_inc rfl ?_ | refine gi_sub (by omega) ?_ | refine gi_mul ?_ | refine go_nx rfl ?_)
  refine gf_get _ c1 (by decide) rfl ?_
  refine gy_le (fun d2 => ?_) (fun d2 => ?_)
  rotate_left
  · repeat (first | refine gc_n3 rfl ?_ | refine gc_n6 rfl ?_ | refine gc_n7 rfl ?_ | refine gc_n8 rfl ?_ | refine gc_n9 rfl ?_ | refine gc_n2 rfl ?_ | refine gc_n5 rfl ?_ | refine gi_con ?_ | refine gi_bip (Nat.le_of_ble_eq_true rfl) ?_ | refine gi_sip (Nat.le_of_ble_eq_true rfl) ?_ | refine gi_ldc ?_ | refine gi_add ?_ | refine gi_inc rfl ?_ | refine gi_sub (by omega) ?_ | refine gi_mul ?_ | refine go_nx rfl ?_)
    refine go_jp rfl ?_
    exact one (Or.inr (Int32.not_le.mp d2))
  have ht2 := i3.1
  obtain ⟨k, hk1, rfl⟩ : ∃ k, k ≤ t.1 ∧ n = nI k := by
    rcases pk_ix n (n := t.1 + 1) (by omega) with q | q | ⟨j, hj, q⟩
    · exact absurd q d1
    · exfalso
      have h3 : nI t.1 < nI (t.1 + 1) := nI_lt (by omega) (by omega)
      exact Int32.not_le.mpr (Int32.lt_of_lt_of_le h3 q) d2
    · exact ⟨j, by omega, q⟩
  have hnb : ¬ (nI k < 0 ∨ nI t.1 < nI k) := fun q => q.elim d1 (fun z => absurd z (Int32.not_lt.mpr d2))
  rw [if_neg hnb, if_neg hnb, if_neg hnb, nI_clamp (by omega)] at hq
  clear one
  have htb := fun j (hj : j < k) => i3.2 j (show j < t.1 by omega)
  have hrow : q_row (q_sub t.2 0 k) k := q_sub_row (by omega) (fun j hj => by rw [Nat.zero_add]; exact (htb j hj).2)
  generalize hBB : q_sub t.2 0 k = BB at hq hrow
  /- the state without a filter -/
  have fin0 : ∀ (h' : mmH) (own' : Nat → Nat), oFr E h h' own own' o → wOk E h' own' → h'.2.2 o = some (.inr (0, [.ref ta, .ref pa, .int (nI 0), .null, hl])) → cInv E h' own' o (0, t.2) none V X := by
    intro h' own' hf hw hc
    refine ⟨ta, pa, .null, hl, f, g, N, O, row, B, cIx_plan (t' := (0, t.2)) (F' := none) hI0 hf hw hc rfl (fun _ => rfl) (fun b q => by cases q) (fun fa q => by cases q) i7 (fun v hv => ?_)⟩
    obtain ⟨a, row2, e1, e2, e3⟩ := i8 v hv
    exact ⟨a, row2, e1, e2, vDat_k (oFr_k hf ⟨_, c1⟩) i2.1 ⟨f, c2⟩ e2 e3⟩
  /- to the reader -/
  repeat (first | refine gc_n3 rfl ?_ | refine gc_n6 rfl ?_ | refine gc_n7 rfl ?_ | refine gc_n8 rfl ?_ | refine gc_n9 rfl ?_ | refine gc_n2 rfl ?_ | refine gc_n5 rfl ?_ | refine gi_con ?_ | refine gi_bip (Nat.le_of_ble_eq_true rfl) ?_ | refine gi_sip (Nat.le_of_ble_eq_true rfl) ?_ | refine gi_ldc ?_ | refine gi_add ?_ | refine gi_inc rfl ?_ | refine gi_sub (by omega) ?_ | refine gi_mul ?_ | refine go_nx rfl ?_)
  refine gc_put (fs' := [.ref ta, .ref pa, .int (nI t.1), .null, hl]) c1 rfl (Nat.le_of_ble_eq_true rfl) rfl rfl ?_
  refine gc_n2 rfl ?_
  have oA : oFr E h (mm_set h o (.inr (0, [.ref ta, .ref pa, .int (nI t.1), .null, hl]))) own own o := ⟨Nat.le_refl _, fun b hb => ⟨rfl, fun q => hs_ne q⟩⟩
  have wA : wOk E (mm_set h o (.inr (0, [.ref ta, .ref pa, .int (nI t.1), .null, hl]))) own := ⟨hOk_set2 i2.1 c1, i2.2⟩
  have cA : (mm_set h o (.inr (0, [.ref ta, .ref pa, .int (nI t.1), .null, hl]))).2.2 o = some (.inr (0, [.ref ta, .ref pa, .int (nI t.1), .null, hl])) := hs_at
  have sA : (mm_set h o (.inr (0, [.ref ta, .ref pa, .int (nI t.1), .null, hl]))).1 = h.1 := rfl
  have tA : (mm_set h o (.inr (0, [.ref ta, .ref pa, .int (nI t.1), .null, hl]))).2.1 = h.2.1 := rfl
  generalize mm_set h o (.inr (0, [.ref ta, .ref pa, .int (nI t.1), .null, hl])) = hA at oA wA cA sA tA ⊢
  have oB : oFr E h (mm_new hA 4 (.inr (2, [.null, .null, .int 0, .int 0]))) own own o := ⟨Nat.le_trans oA.1 (Nat.le_succ _), fun b hb => ⟨rfl, fun q => by rw [hn_ne (by omega)]; exact (oA.2 b hb).2 q⟩⟩
  have wB := wOk_new (n := 4) (c := .inr (2, [.null, .null, .int 0, .int 0])) wA
  have cB : cTp (mm_new hA 4 (.inr (2, [.null, .null, .int 0, .int 0]))) o ta pa t.1 .null hl f := ⟨by rw [hn_ne (by omega)]; exact cA, by rw [(oB.2 ta htl).2 hto]; exact c2⟩
  have rB : (mm_new hA 4 (.inr (2, [.null, .null, .int 0, .int 0]))).2.2 hA.1 = some (.inr (2, [.null, .null, .int 0, .int 0])) := hn_at
  have sB : (mm_new hA 4 (.inr (2, [.null, .null, .int 0, .int 0]))).1 = h.1 + 1 := by show hA.1 + 1 = _; omega
  have tB : (mm_new hA 4 (.inr (2, [.null, .null, .int 0, .int 0]))).2.1 = h.2.1 + 4 := by show hA.2.1 + 4 = _; omega
  generalize mm_new hA 4 (.inr (2, [.null, .null, .int 0, .int 0])) = hB at oB wB cB rB sB tB ⊢
  rw [sA] at rB ⊢
  repeat (first | refine gc_n3 rfl ?_ | refine gc_n6 rfl ?_ | refine gc_n7 rfl ?_ | refine gc_n8 rfl ?_ | refine gc_n9 rfl ?_ | refine gc_n2 rfl ?_ | refine gc_n5 rfl ?_ | refine gi_con ?_ | refine gi_bip (Nat.le_of_ble_eq_true rfl) ?_ | refine gi_sip (Nat.le_of_ble_eq_true rfl) ?_ | refine gi_ldc ?_ | refine gi_add ?_ | refine gi_inc rfl ?_ | refine gi_sub (by omega) ?_ | refine gi_mul ?_ | refine go_nx rfl ?_)
  refine go_step ?_
  refine g_callV (by decide) (by decide) (Nat.le_of_ble_eq_true rfl) (Nat.le_of_ble_eq_true rfl) (o_rcv cB.1 rfl (by decide)) (by omega) (Nat.le_of_ble_eq_true rfl) rfl ?_
  refine sp_take (by omega) wB.1 cB (by omega) (fun gg hgg => ?_)
  have hob := cB.1
  have oC : oFr E h (mm_new (mm_set hB o (.inr (0, [.ref ta, .ref pa, .int (nI 0), .null, hl]))) k (.inl (0, k, .inl gg))) own own o := ⟨by show h.1 ≤ hB.1 + 1; omega, fun b hb => ⟨rfl, fun q => by rw [hn_ne (by show b ≠ hB.1; omega), hs_ne q]; exact (oB.2 b hb).2 q⟩⟩
  have wC : wOk E (mm_new (mm_set hB o (.inr (0, [.ref ta, .ref pa, .int (nI 0), .null, hl]))) k (.inl (0, k, .inl gg))) own := wOk_new ⟨hOk_set2 wB.1 hob, wB.2⟩
  have cC : (mm_new (mm_set hB o (.inr (0, [.ref ta, .ref pa, .int (nI 0), .null, hl]))) k (.inl (0, k, .inl gg))).2.2 o = some (.inr (0, [.ref ta, .ref pa, .int (nI 0), .null, hl])) := by
    rw [hn_ne (by show o ≠ hB.1; omega)]
    exact hs_at
  have rC : (mm_new (mm_set hB o (.inr (0, [.ref ta, .ref pa, .int (nI 0), .null, hl]))) k (.inl (0, k, .inl gg))).2.2 h.1 = some (.inr (2, [.null, .null, .int 0, .int 0])) := by
    rw [hn_ne (by show h.1 ≠ hB.1; omega), hs_ne (by omega)]
    exact rB
  have bC : bRow (mm_new (mm_set hB o (.inr (0, [.ref ta, .ref pa, .int (nI 0), .null, hl]))) k (.inl (0, k, .inl gg))) hB.1 k BB := by
    rw [← hBB]
    exact row_of (by omega) hn_at (fun j hj => by rw [hgg j hj]; exact htb j hj)
  have sC : (mm_new (mm_set hB o (.inr (0, [.ref ta, .ref pa, .int (nI 0), .null, hl]))) k (.inl (0, k, .inl gg))).1 = h.1 + 2 := by show hB.1 + 1 = _; omega
  have tC : (mm_new (mm_set hB o (.inr (0, [.ref ta, .ref pa, .int (nI 0), .null, hl]))) k (.inl (0, k, .inl gg))).2.1 = h.2.1 + 4 + k := by show hB.2.1 + k = _; omega
  generalize mm_new (mm_set hB o (.inr (0, [.ref ta, .ref pa, .int (nI 0), .null, hl]))) k (.inl (0, k, .inl gg)) = hC at oC wC cC rC bC sC tC ⊢
  refine go_step ?_
  refine g_call (k := 21) rfl (by omega) (Nat.le_of_ble_eq_true rfl) rfl ?_
  refine sp_rnew (by omega) hE wC.1 rC bC (fun h1 ed k1 k2 k3 k4 k5 => ?_)
  rw [sC] at k1 k3
  have hedn : ∀ (H H' : mmH), hOk E H → hOk E H' → H'.2.2 ed = H.2.2 ed := fun H H' q q' => by rw [q.2.1 ed k5, q'.2.1 ed k5]
  have o1 : oFr E h h1 own own o := ⟨by omega, fun b hb => ⟨rfl, fun q => by rw [k2.2 b (by omega) (by omega)]; exact (oC.2 b hb).2 q⟩⟩
  have o1o : h1.2.2 o = some (.inr (0, [.ref ta, .ref pa, .int (nI 0), .null, hl])) := by rw [k2.2 o (by omega) (by omega)]; exact cC
  repeat (first | refine gc_n3 rfl ?_ | refine gc_n6 rfl ?_ | refine gc_n7 rfl ?_ | refine gc_n8 rfl ?_ | refine gc_n9 rfl ?_ | refine gc_n2 rfl ?_ | refine gc_n5 rfl ?_ | refine gi_con ?_ | refine gi_bip (Nat.le_of_ble_eq_true rfl) ?_ | refine gi_sip (Nat.le_of_ble_eq_true rfl) ?_ | refine gi_ldc ?_ | refine gi_add ?_ | refine gi_inc rfl ?_ | refine gi_sub (by omega) ?_ | refine gi_mul ?_ | refine go_nx rfl ?_)
  have rr1 : h1.2.2 h.1 = some (rdC (h.1 + 2) hB.1 0 false) := k1.1
  refine go_step ?_
  refine g_callV (by decide) (by decide) (Nat.le_of_ble_eq_true rfl) (Nat.le_of_ble_eq_true rfl) (o_rcv rr1 rfl (by decide)) (by omega) (Nat.le_of_ble_eq_true rfl) rfl ?_
  refine sp_rwhole (by omega) hE hSt k1 hrow (fun h2 N' ed' cap' p1 p2 p3 p3b p4 p5 p6 p7 p8 p9 p10 => ?_) (fun h2 cap' p1 p2 p3 p4 p5 p6 p7 => ?_)
  rotate_left
  · /- no document -/
    have o2 : oFr E h h2 own own o := ⟨Nat.le_trans o1.1 p3.1, fun b hb => ⟨rfl, fun q => by
      by_cases hbe : b = ed
      · rw [hbe, hedn h h2 i2.1 p2]
      · rw [p3.2 b (by omega) (fun z => by rcases z with z | z | z <;> omega)]
        exact (o1.2 b hb).2 q⟩⟩
    have c2' : h2.2.2 o = some (.inr (0, [.ref ta, .ref pa, .int (nI 0), .null, hl])) := by
      rw [p3.2 o (by omega) (fun z => by
        rcases z with z | z | z
        · omega
        · omega
        · have := i2.1.2.1 ed k5
          rw [← z, c1] at this
          cases this)]
      exact o1o
    rw [p1, if_pos rfl, if_neg (fun q => Bool.noConfusion q.1)] at hq
    have hwo : wOk E h2 own := ⟨p2, fun b => by have := i2.2 b; have := o2.1; omega⟩
    repeat (first | refine gc_n3 rfl ?_ | refine gc_n6 rfl ?_ | refine gc_n7 rfl ?_ | refine gc_n8 rfl ?_ | refine gc_n9 rfl ?_ | refine gc_n2 rfl ?_ | refine gc_n5 rfl ?_ | refine gi_con ?_ | refine gi_bip (Nat.le_of_ble_eq_true rfl) ?_ | refine gi_sip (Nat.le_of_ble_eq_true rfl) ?_ | refine gi_ldc ?_ | refine gi_add ?_ | refine gi_inc rfl ?_ | refine gi_sub (by omega) ?_ | refine gi_mul ?_ | refine go_nx rfl ?_)
    refine gn_nnN ?_
    repeat (first | refine gc_n3 rfl ?_ | refine gc_n6 rfl ?_ | refine gc_n7 rfl ?_ | refine gc_n8 rfl ?_ | refine gc_n9 rfl ?_ | refine gc_n2 rfl ?_ | refine gc_n5 rfl ?_ | refine gi_con ?_ | refine gi_bip (Nat.le_of_ble_eq_true rfl) ?_ | refine gi_sip (Nat.le_of_ble_eq_true rfl) ?_ | refine gi_ldc ?_ | refine gi_add ?_ | refine gi_inc rfl ?_ | refine gi_sub (by omega) ?_ | refine gi_mul ?_ | refine go_nx rfl ?_)
    refine go_rt rfl ?_
    exact hq h2 own (fin0 h2 own o2 hwo c2') (oFr_k o2 ⟨_, c1⟩) (by show h2.1 + 36 * 0 ≤ _; omega) (by show h2.2.1 + 560 * 0 ≤ _; omega) (by omega)
  have hk2 : hOk E h2 := p4.2.2.1
  have o2 : oFr E h h2 own own o := ⟨Nat.le_trans o1.1 p6.1, fun b hb => ⟨rfl, fun q => by
    by_cases hbe : b = ed
    · rw [hbe, hedn h h2 i2.1 hk2]
    · rw [p6.2 b (by omega) (fun z => by rcases z with z | z | z <;> omega)]
      exact (o1.2 b hb).2 q⟩⟩
  have c2' : h2.2.2 o = some (.inr (0, [.ref ta, .ref pa, .int (nI 0), .null, hl])) := by
    rw [p6.2 o (by omega) (fun z => by
      rcases z with z | z | z
      · omega
      · omega
      · have := i2.1.2.1 ed k5
        rw [← z, c1] at this
        cases this)]
    exact o1o
  rw [p1, if_neg (fun q => Bool.noConfusion q)] at hq
  have hbx : q_box (q_u8 BB) BB 16 0 k false = true := by
    unfold q_doc at p1
    rw [Bool.and_eq_true] at p1
    exact p1.2
  have hpre := pre_1000 hrow hbx
  have hpk := pre_le hrow hbx (Nat.le_refl _)
  have hszk := q_box_le hbx
  have hroot : h2.2.2 h1.1 = some (.inr (4, [.ref hB.1, .int (nI 3), .int (-1), .int (nI 0), .int (nI 0), .int (nI 4), .int 0, .int 0, .long 0, if 4 < q_last BB 0 then .ref (N' 4) else .null, .null, .int 0])) := p5
  have hbr2 : bRow h2 hB.1 k BB := p4.2.2.2.1
  have hla2 := p4.2.1
  have h1l : h.1 + 3 = h1.1 := by omega
  repeat (first | refine gc_n3 rfl ?_ | refine gc_n6 rfl ?_ | refine gc_n7 rfl ?_ | refine gc_n8 rfl ?_ | refine gc_n9 rfl ?_ | refine gc_n2 rfl ?_ | refine gc_n5 rfl ?_ | refine gi_con ?_ | refine gi_bip (Nat.le_of_ble_eq_true rfl) ?_ | refine gi_sip (Nat.le_of_ble_eq_true rfl) ?_ | refine gi_ldc ?_ | refine gi_add ?_ | refine gi_inc rfl ?_ | refine gi_sub (by omega) ?_ | refine gi_mul ?_ | refine go_nx rfl ?_)
  refine gn_nnR ?_
  refine gc_n5 rfl ?_
  have hkN := hOk_new (E := E) (n := 1) (c := .inr (5, [.int 0])) hk2
  have chk : (mm_new h2 1 (.inr (5, [.int 0]))).2.2 h2.1 = some (.inr (5, [.int 0])) := hn_at
  have frN : hFr h2 (mm_new h2 1 (.inr (5, [.int 0]))) (fun _ => False) := hFr_new
  have sN : (mm_new h2 1 (.inr (5, [.int 0]))).1 = h2.1 + 1 := rfl
  have tN : (mm_new h2 1 (.inr (5, [.int 0]))).2.1 = h2.2.1 + 1 := rfl
  generalize mm_new h2 1 (.inr (5, [.int 0])) = h3 at hkN chk frN sN tN ⊢
  repeat (first | refine gc_n3 rfl ?_ | refine gc_n6 rfl ?_ | refine gc_n7 rfl ?_ | refine gc_n8 rfl ?_ | refine gc_n9 rfl ?_ | refine gc_n2 rfl ?_ | refine gc_n5 rfl ?_ | refine gi_con ?_ | refine gi_bip (Nat.le_of_ble_eq_true rfl) ?_ | refine gi_sip (Nat.le_of_ble_eq_true rfl) ?_ | refine gi_ldc ?_ | refine gi_add ?_ | refine gi_inc rfl ?_ | refine gi_sub (by omega) ?_ | refine gi_mul ?_ | refine go_nx rfl ?_)
  refine go_step ?_
  refine g_call (k := 58) rfl (by omega) (Nat.le_of_ble_eq_true rfl) rfl ?_
  refine sp_chinit chk ?_
  have keep3 : ∀ b, b < h2.1 → h3.2.2 b = h2.2.2 b := fun b hb => frN.2 b hb id
  have hbrl : hB.1 < h2.1 := by
    obtain ⟨-, ⟨ff, r2, -⟩, -⟩ := hbr2
    exact hOk_lt hk2 r2
  have hbr3 : bRow h3 hB.1 k BB := bRow_eq hbr2 (keep3 _ hbrl)
  have hnb3 : nBox h3 hB.1 BB N' (fun _ => 0) 16 0 := nBox_sub (fun b c hb => keep3 b (hOk_lt hk2 hb)) p2
  have hroot3 := keep3 _ (hOk_lt hk2 hroot)
  rw [hroot] at hroot3
  have hcls := hOk_lt hk2 c2'
  repeat (first | refine gc_n3 rfl ?_ | refine gc_n6 rfl ?_ | refine gc_n7 rfl ?_ | refine gc_n8 rfl ?_ | refine gc_n9 rfl ?_ | refine gc_n2 rfl ?_ | refine gc_n5 rfl ?_ | refine gi_con ?_ | refine gi_bip (Nat.le_of_ble_eq_true rfl) ?_ | refine gi_sip (Nat.le_of_ble_eq_true rfl) ?_ | refine gi_ldc ?_ | refine gi_add ?_ | refine gi_inc rfl ?_ | refine gi_sub (by omega) ?_ | refine gi_mul ?_ | refine go_nx rfl ?_)
  refine go_step ?_
  refine g_callV (by decide) (by decide) (Nat.le_of_ble_eq_true rfl) (Nat.le_of_ble_eq_true rfl) cH_rcv (by omega) (Nat.le_of_ble_eq_true rfl) rfl ?_
  have hfin := fun (fsw : List Value) (Q' : Option Value → mmH → Prop) => sp_clook (E := E) (u := q_u8 BB) (N := N') (ord := fun _ => 0) chk hbr3 hrow 16 false (d - 1) h1.1 fsw 0 k 16 0 1 Q'
  refine hfin _ _ (by omega) (by omega) (by omega) hbx (Nat.le_refl _) (by omega) hroot3 rfl hnb3 ?_
  clear hfin
  intro c' hc'
  /- behind the checker -/
  have hk4 : hOk E (cH h3 h2.1 c') := hOk_set2 hkN chk
  have keep4 : ∀ b, b < h2.1 → (cH h3 h2.1 c').2.2 b = h2.2.2 b := fun b hb => by
    show (mm_set h3 h2.1 _).2.2 b = _
    rw [hs_ne (by omega)]
    exact keep3 b hb
  have s4 : (cH h3 h2.1 c').1 = h2.1 + 1 := sN
  have t4 : (cH h3 h2.1 c').2.1 = h2.2.1 + 1 := tN
  generalize cH h3 h2.1 c' = h4 at hk4 keep4 s4 t4 ⊢
  have c4' := keep4 _ hcls
  rw [c2'] at c4'
  have o2l := o2.1
  have o4 : oFr E h h4 own own o := ⟨by omega, fun b hb => ⟨rfl, fun q => by rw [keep4 b (by omega)]; exact (o2.2 b hb).2 q⟩⟩
  have hflt5 := (q_flt_le BB 16 false 0 0 (by omega)).1
  have rcap := p4.2.2.2.2.2
  repeat (first | refine gc_n3 rfl ?_ | refine gc_n6 rfl ?_ | refine gc_n7 rfl ?_ | refine gc_n8 rfl ?_ | refine gc_n9 rfl ?_ | refine gc_n2 rfl ?_ | refine gc_n5 rfl ?_ | refine gi_con ?_ | refine gi_bip (Nat.le_of_ble_eq_true rfl) ?_ | refine gi_sip (Nat.le_of_ble_eq_true rfl) ?_ | refine gi_ldc ?_ | refine gi_add ?_ | refine gi_inc rfl ?_ | refine gi_sub (by omega) ?_ | refine gi_mul ?_ | refine go_nx rfl ?_)
  first | refine gz_eq (by omega) (fun c6 => ?_) (fun c6 => ?_) | refine gz_ne (by omega) (fun c6 => ?_) (fun c6 => ?_) | refine gz_le (by omega) (fun c6 => ?_) (fun c6 => ?_) | refine gz_gt (by omega) (fun c6 => ?_) (fun c6 => ?_) | refine gz_lt (by omega) (fun c6 => ?_) (fun c6 => ?_) | refine gz_ge (by omega) (fun c6 => ?_) (fun c6 => ?_)
  · /- a fault -/
    rw [if_neg (show ¬ (true = true ∧ (q_flt BB 16 false 0 0).1 = 0) from fun q => by omega)] at hq
    repeat (first | refine gc_n3 rfl ?_ | refine gc_n6 rfl ?_ | refine gc_n7 rfl ?_ | refine gc_n8 rfl ?_ | refine gc_n9 rfl ?_ | refine gc_n2 rfl ?_ | refine gc_n5 rfl ?_ | refine gi_con ?_ | refine gi_bip (Nat.le_of_ble_eq_true rfl) ?_ | refine gi_sip (Nat.le_of_ble_eq_true rfl) ?_ | refine gi_ldc ?_ | refine gi_add ?_ | refine gi_inc rfl ?_ | refine gi_sub (by omega) ?_ | refine gi_mul ?_ | refine go_nx rfl ?_)
    refine go_rt rfl ?_
    exact hq h4 own (fin0 h4 own o4 ⟨hk4, fun b => by have := i2.2 b; omega⟩ c4') (oFr_k o4 ⟨_, c1⟩) (by show h4.1 + 36 * 0 ≤ _; omega) (by show h4.2.1 + 560 * 0 ≤ _; omega) (by omega)
  rw [if_pos ⟨rfl, c6⟩, c6] at hq
  rw [c6]
  have rr4 : h4.2.2 h.1 = some (.inr (2, [.ref (h.1 + 2), .ref hB.1, .int (nI k), .int (q_t false)])) := by
    rw [keep4 _ (by omega)]
    exact p4.1
  repeat (first | refine gc_n3 rfl ?_ | refine gc_n6 rfl ?_ | refine gc_n7 rfl ?_ | refine gc_n8 rfl ?_ | refine gc_n9 rfl ?_ | refine gc_n2 rfl ?_ | refine gc_n5 rfl ?_ | refine gi_con ?_ | refine gi_bip (Nat.le_of_ble_eq_true rfl) ?_ | refine gi_sip (Nat.le_of_ble_eq_true rfl) ?_ | refine gi_ldc ?_ | refine gi_add ?_ | refine gi_inc rfl ?_ | refine gi_sub (by omega) ?_ | refine gi_mul ?_ | refine go_nx rfl ?_)
  refine gf_get _ rr4 (by decide) rfl ?_
  refine go_step ?_
  refine g_call (k := 69) rfl (by omega) (Nat.le_of_ble_eq_true rfl) rfl ?_
  have hla4 : aL E h4 (h.1 + 2) ed' cap' ((q_pre BB 16 0).map N') := aL_fr hla2 (by
    obtain ⟨mc, hm⟩ := hla2.1
    exact keep4 _ (hOk_lt hk2 hm)) (fun ⟨x, hx⟩ => keep4 _ (hOk_lt hk2 hx))
  refine sp_number (by omega) hE hk4 (bRow_eq hbr2 (keep4 _ hbrl)) hrow hla4 hbx (nBox_sub (fun b c hb => keep4 b (hOk_lt hk2 hb)) p2) p3.2 (by omega) (fun h5 O5 r1 r2 r3 r4 r5 r6 r7 r8 => ?_)
  /- behind the numbering -/
  have hO5 : oIs (q_ord BB BB 17) (fun x => x ∈ q_pre BB 16 0) O5 := ⟨r3, fun x y hx hy => r2 x hx y hy⟩
  have keep5 : ∀ b, b < h4.1 → (∀ y ∈ q_pre BB 16 0, b ≠ N' y) → h5.2.2 b = h4.2.2 b := fun b hb hn => r5.2 b hb (fun ⟨y, hy, q⟩ => hn y hy q)
  have nlow : ∀ b, b < h1.1 → ∀ y ∈ q_pre BB 16 0, b ≠ N' y := fun b hb y hy => by have := (p3.1 y hy).1; omega
  have hbr5 : bRow h5 hB.1 k BB := bRow_eq hbr2 (by rw [keep5 _ (by omega) (nlow _ (by omega)), keep4 _ hbrl])
  have hroot5 := (keep5 h1.1 (by have := hOk_lt hk2 hroot; omega) (fun y hy q => p3b y hy q.symm)).trans ((keep4 _ (hOk_lt hk2 hroot)).trans hroot)
  have o5l := r5.1
  have o5 : oFr E h h5 own own o := ⟨by omega, fun b hb => ⟨rfl, fun q => by rw [keep5 b (by omega) (nlow b (by omega))]; exact (o4.2 b hb).2 q⟩⟩
  have c5' : h5.2.2 o = some (.inr (0, [.ref ta, .ref pa, .int (nI 0), .null, hl])) := by
    rw [keep5 o (by omega) (nlow o (by omega))]
    exact c4'
  have w5 : wOk E h5 own := ⟨r4, fun b => by have := i2.2 b; omega⟩
  repeat (first | refine gc_n3 rfl ?_ | refine gc_n6 rfl ?_ | refine gc_n7 rfl ?_ | refine gc_n8 rfl ?_ | refine gc_n9 rfl ?_ | refine gc_n2 rfl ?_ | refine gc_n5 rfl ?_ | refine gi_con ?_ | refine gi_bip (Nat.le_of_ble_eq_true rfl) ?_ | refine gi_sip (Nat.le_of_ble_eq_true rfl) ?_ | refine gi_ldc ?_ | refine gi_add ?_ | refine gi_inc rfl ?_ | refine gi_sub (by omega) ?_ | refine gi_mul ?_ | refine go_nx rfl ?_)
  refine go_step ?_
  refine g_call (k := 76) rfl (by omega) (Nat.le_of_ble_eq_true rfl) rfl ?_
  refine sp_finit (by omega) hE w5 (fun h6 m1 m2 m3 m4 m5 m6 m7 => ?_)
  obtain ⟨y1, y2, y3, y4, y5⟩ := filt_ok hbx c6 hO5
  have hpr : q_flt BB 16 false 0 0 = (0, (q_flt BB 16 false 0 0).2) := Prod.ext c6 rfl
  have hZl : (q_colA BB 16 0).length ≤ ((q_colA BB 16 0).map (zW BB)).sum := by
    have : ∀ l : List (Nat × Nat × Nat), l.length ≤ (l.map (zW BB)).sum := by
      intro l
      induction l with
      | nil => exact Nat.le_refl _
      | cons x l ih =>
        rw [List.map_cons, List.sum_cons, List.length_cons]
        have : 1 ≤ zW BB x := by unfold zW; omega
        omega
    exact this _
  have hWS : ((q_colA BB 16 0).map (zW BB)).sum ≤ ((q_colA BB 16 0).map (zS BB)).sum := sum_mono (fun z hz => zW_zS (y2 z hz))
  have hptr := (box_chn (N := N') hrow hbx (Nat.le_refl _)).2
  repeat (first | refine gc_n3 rfl ?_ | refine gc_n6 rfl ?_ | refine gc_n7 rfl ?_ | refine gc_n8 rfl ?_ | refine gc_n9 rfl ?_ | refine gc_n2 rfl ?_ | refine gc_n5 rfl ?_ | refine gi_con ?_ | refine gi_bip (Nat.le_of_ble_eq_true rfl) ?_ | refine gi_sip (Nat.le_of_ble_eq_true rfl) ?_ | refine gi_ldc ?_ | refine gi_add ?_ | refine gi_inc rfl ?_ | refine gi_sub (by omega) ?_ | refine gi_mul ?_ | refine go_nx rfl ?_)
  refine go_step ?_
  refine g_callV (by decide) (by decide) (Nat.le_of_ble_eq_true rfl) (Nat.le_of_ble_eq_true rfl) (o_rcv m1 rfl (by decide)) (by omega) (Nat.le_of_ble_eq_true rfl) rfl ?_
  refine sp_gather (T := (q_pre BB 16 0).length) (P := fun x => x ∈ q_pre BB 16 0) (O := O5) (N := N') (own0 := own) (h0 := h5) (row := hB.1) (n := k) (S := h5.1 + 2) (cl := h5.1 + 1) hE w5.2 rfl r4 ⟨hbr5, r1⟩ hrow hbx (fun x hx => hx) (fun x hx h34 => pre_sub hbx x hx h34) hO5 (oCl_ord BB) hpre 16 (d - 1) 16 0 k 1 h1.1 false _ h6 own 0 0 [] _ (by omega) hbx (Nat.le_refl _) (Nat.le_refl _) (by omega) (flt_G 16 16 0 k 0 _ false hbx (Nat.le_refl _) hpr) r1 (pre_top hbx) hroot5 (by rw [hptr]; rfl) (fun z hz => ⟨y2 z hz, fun h7 => elem_sum (y4 z hz) (ofi_3 ((y2 z hz).2.2.2 h7).1)⟩) (fun z hz => by rw [List.nil_append] at hz; exact (y4 z hz).2.2.1) (by rw [List.nil_append]; exact y5) (by rw [List.nil_append]; omega) ?_ m4 m5 (fun h7 own7 cc7 cs7 u1 u2 u3 u4 u5 u6 => ?_)
  · refine ⟨m1, ⟨by omega, by omega, by omega, by omega, by omega⟩, ⟨[], m3⟩, Nat.zero_le _, [], [], fun _ => 0, fun _ => 0, m2, rfl, Nat.le_refl _, Nat.zero_le _, fun i hi => absurd hi (Nat.not_lt_zero _), fun i j hi => absurd hi (Nat.not_lt_zero _), fun i j hi => absurd hi (Nat.not_lt_zero _), fun z hz => absurd hz List.not_mem_nil⟩
  rw [List.nil_append] at u1
  have c7 := lFr_obj u3 r4 c5' (by decide)
  rw [c5'] at c7
  have u3l := u3.1
  have o7 : oFr E h h7 own own7 o := ⟨by omega, fun b hb => ⟨(u3.2 b (by omega)).1, fun q => by
    rw [(u3.2 b (by omega)).2 (fun _ _ => id) (fun _ _ _ => id)]
    exact (o5.2 b hb).2 q⟩⟩
  repeat (first | refine gc_n3 rfl ?_ | refine gc_n6 rfl ?_ | refine gc_n7 rfl ?_ | refine gc_n8 rfl ?_ | refine gc_n9 rfl ?_ | refine gc_n2 rfl ?_ | refine gc_n5 rfl ?_ | refine gi_con ?_ | refine gi_bip (Nat.le_of_ble_eq_true rfl) ?_ | refine gi_sip (Nat.le_of_ble_eq_true rfl) ?_ | refine gi_ldc ?_ | refine gi_add ?_ | refine gi_inc rfl ?_ | refine gi_sub (by omega) ?_ | refine gi_mul ?_ | refine go_nx rfl ?_)
  refine gc_put (fs' := [.ref ta, .ref pa, .int (nI 0), .ref h5.1, hl]) c7 rfl (Nat.le_of_ble_eq_true rfl) rfl rfl ?_
  repeat (first | refine gc_n3 rfl ?_ | refine gc_n6 rfl ?_ | refine gc_n7 rfl ?_ | refine gc_n8 rfl ?_ | refine gc_n9 rfl ?_ | refine gc_n2 rfl ?_ | refine gc_n5 rfl ?_ | refine gi_con ?_ | refine gi_bip (Nat.le_of_ble_eq_true rfl) ?_ | refine gi_sip (Nat.le_of_ble_eq_true rfl) ?_ | refine gi_ldc ?_ | refine gi_add ?_ | refine gi_inc rfl ?_ | refine gi_sub (by omega) ?_ | refine gi_mul ?_ | refine go_nx rfl ?_)
  refine go_jp rfl ?_
  repeat (first | refine gc_n3 rfl ?_ | refine gc_n6 rfl ?_ | refine gc_n7 rfl ?_ | refine gc_n8 rfl ?_ | refine gc_n9 rfl ?_ | refine gc_n2 rfl ?_ | refine gc_n5 rfl ?_ | refine gi_con ?_ | refine gi_bip (Nat.le_of_ble_eq_true rfl) ?_ | refine gi_sip (Nat.le_of_ble_eq_true rfl) ?_ | refine gi_ldc ?_ | refine gi_add ?_ | refine gi_inc rfl ?_ | refine gi_sub (by omega) ?_ | refine gi_mul ?_ | refine go_nx rfl ?_)
  refine go_rt rfl ?_
  have o8 : oFr E h (mm_set h7 o (.inr (0, [.ref ta, .ref pa, .int (nI 0), .ref h5.1, hl]))) own own7 o := ⟨o7.1, fun b hb => ⟨(o7.2 b hb).1, fun q => by rw [hs_ne q]; exact (o7.2 b hb).2 q⟩⟩
  have w8 : wOk E (mm_set h7 o (.inr (0, [.ref ta, .ref pa, .int (nI 0), .ref h5.1, hl]))) own7 := ⟨hOk_set2 u2.1 c7, u2.2⟩
  have t7 : tAt h7 ta := ⟨f, by rw [(o7.2 ta htl).2 hto]; exact c2⟩
  have k78 : kFr h7 (mm_set h7 o (.inr (0, [.ref ta, .ref pa, .int (nI 0), .ref h5.1, hl]))) own7 own7 ta := ⟨Nat.le_refl _, fun b hb => ⟨rfl, fun n1 n2 n3 n4 => hs_ne (fun q => n2 [.ref ta, .ref pa, .int (nI 0), .null, hl] (by rw [q]; exact c7))⟩⟩
  have fd7 : fDat E h7 own7 h5.1 k BB hB.1 N' O5 := ⟨hrow, hbx, c6, hO5, fCx_fr u3 r4 ⟨hbr5, r1⟩, _, _, _, _, _, _, _, hpre, u1⟩
  have cells : cc7 ≤ 2 * (q_colA BB 16 0).length + 10 ∧ cs7 ≤ 2 * (q_pre BB 16 0).length + 10 := by
    obtain ⟨-, -, -, v1, lc, es, al, on, v2, v3, v4, v5, -⟩ := u1
    exact ⟨by omega, v1⟩
  obtain ⟨z1, z2⟩ := z_sum (T := (q_pre BB 16 0).length) (q_colA BB 16 0) (fun z hz => zW_zS (y2 z hz))
  generalize (q_colA BB 16 0).length = zl at *
  generalize ((q_colA BB 16 0).map (z5 BB (q_pre BB 16 0).length)).sum = s5 at *
  generalize ((q_colA BB 16 0).map (z4 BB (q_pre BB 16 0).length)).sum = s4' at *
  generalize ((q_colA BB 16 0).map (zS BB)).sum = sS at *
  generalize ((q_colA BB 16 0).map (zW BB)).sum = sW at *
  generalize (q_pre BB 16 0).length = TT at *
  have m1' : zl * (2 * TT + 60) ≤ 260 * TT := by
    have e1 : zl * (2 * TT) ≤ 100 * (2 * TT) := Nat.mul_le_mul_right _ (by omega)
    have e2 : zl * 60 ≤ TT * 60 := Nat.mul_le_mul_right _ (by omega)
    rw [Nat.mul_add]
    omega
  have m2' : zl * (8 * TT + 160) ≤ 960 * TT := by
    have e1 : zl * (8 * TT) ≤ 100 * (8 * TT) := Nat.mul_le_mul_right _ (by omega)
    have e2 : zl * 160 ≤ TT * 160 := Nat.mul_le_mul_right _ (by omega)
    rw [Nat.mul_add]
    omega
  refine hq _ own7 ⟨ta, pa, .ref h5.1, hl, f, g, N', O5, hB.1, BB, cIx_plan (t' := (0, t.2)) hI0 o8 w8 hs_at rfl (fun q => by cases q) (fun b q => by cases q; exact ⟨rfl, by omega, h5.1, rfl, fDat_k k78 u2.1 t7 (by omega) fd7⟩) (fun fa q => by cases q; exact Or.inl (by omega)) i7 (fun v hv => ?_)⟩ (oFr_k o8 ⟨_, c1⟩) ?_ ?_ ?_
  · obtain ⟨a, row2, e1, e2, e3⟩ := i8 v hv
    exact ⟨a, row2, e1, e2, vDat_k (oFr_k o8 ⟨_, c1⟩) i2.1 ⟨f, c2⟩ e2 e3⟩
  · show h7.1 + 36 * 0 ≤ _
    omega
  · show h7.2.1 + 560 * 0 ≤ _
    omega
  · show h.2.1 ≤ h7.2.1
    omega
end C
