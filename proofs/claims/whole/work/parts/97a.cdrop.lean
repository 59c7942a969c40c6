/-! THE CLASS: drop, index -/
section C
variable {E : mmE} {d : Nat} {h : mmH} {Q : Option Value → mmH → Prop} {B N O : Nat → Nat} {row : Nat} {own : Nat → Nat} {ta o : Nat} {t : qB} {F V : Option qB} {X : Nat → Option qX} {pa : Nat} {pl hl : Value} {f : Nat → Int32} {g : Nat → Option Nat}
/-- the state over a heap that keeps what it stands on -/
theorem cIx_kFr {h' : mmH} {own' : Nat → Nat} {t' : qB} {X' : Nat → Option qX} {f' : Nat → Int32} {g' : Nat → Option Nat} (hI : cIx E h own o t F V X ta pa pl hl f g N O row B) (hfr : kFr h h' own own' ta) (hw : wOk E h' own') (hc : cTp h' o ta pa t'.1 pl hl f') (ht : t'.1 ≤ 2000 ∧ ∀ j, j < t'.1 → f' j = sb_b (t'.2 j) ∧ t'.2 j < 256) (hp : h'.2.2 pa = some (.inl (4, 16, .inr (.inr (.inr (.inr g')))))) (hs : ∀ i w, i < 8 → w < 2 → (q_pt2 X' i w = none → g' (2 * i + w) = none) ∧ ∀ p, q_pt2 X' i w = some p → ∃ a, g' (2 * i + w) = some a ∧ pSlot E h' own' pl N O B ta p a) (hi : ∀ k k' a, k < 16 → k' < 16 → g' k = some a → g' k' = some a → k = k') : cIx E h' own' o t' F V X' ta pa pl hl f' g' N O row B := by
  obtain ⟨⟨c1, c2⟩, i2, i3, i4, i5, i6, i7, i8, i9, i10⟩ := hI
  have htt : tAt h ta := ⟨f, c2⟩
  refine ⟨hc, hw, ht, hp, i5, fun b hb => ?_, i7, fun v hv => ?_, hs, hi⟩
  · obtain ⟨e1, e2, fa, e3, e4⟩ := i6 b hb
    exact ⟨e1, e2, fa, e3, fDat_k hfr i2.1 htt e2 e4⟩
  · obtain ⟨a2, row2, e1, e2, e3⟩ := i8 v hv
    exact ⟨a2, row2, e1, e2, vDat_k hfr i2.1 htt e2 e3⟩
theorem pSlot_k {h' : mmH} {own' : Nat → Nat} {p : qP} {a : Nat} (hfr : kFr h h' own own' ta) (hk : hOk E h) (ht : tAt h ta) (ha : h'.2.2 a = h.2.2 a) (hp : pSlot E h own pl N O B ta p a) : pSlot E h' own' pl N O B ta p a := by
  obtain ⟨nm, seen, kept, q1, q2, q3, q4, q5⟩ := hp
  have := hfr.1
  exact ⟨nm, seen, kept, by rw [ha]; exact q1, bRow_k hfr hk q2 q3, q3, q4.imp_right (fun ⟨s, z1, z2⟩ => ⟨s, z1, Nat.lt_of_lt_of_le z2 hfr.1⟩), fun fa z1 z2 => kOk_k hfr hk ht (q5 fa z1 z2)⟩
theorem drp_pth {i : Int32} : q_drp X i = (q_pth X i 0).isSome := by
  unfold q_drp q_pth
  split
  · rfl
  · cases X i.toNatClampNeg <;> rfl
theorem sp_cdrop {i : Int32} (hd : 2 ≤ d) (hI : cIx E h own o t F V X ta pa pl hl f g N O row B) (hq : ∀ h' g', cIx E h' own o t F V (s_drop X i) ta pa pl hl f g' N O row B → h'.1 = h.1 → h'.2.1 = h.2.1 → kFr h h' own own ta → Q (some (.int (q_t (q_drp X i)))) h') : mm_Go E d 17 (mm_blk 17 0) [.ref o, .int i] [] h Q := by
  unfold s_drop at hq
  repeat (first | refine gc_n3 rfl ?_ | refine gc_n6 rfl ?_ | refine gc_n7 rfl ?_ | refine gc_n8 rfl ?_ | refine gc_n9 rfl ?_ | refine gi_con ?_ | refine gi_bip (Nat.le_of_ble_eq_true rfl) ?_ | refine gi_sip (Nat.le_of_ble_eq_true rfl) ?_ | refine gi_ldc ?_ | refine gi_add ?_ | refine gi_inc rfl ?_ | refine gi_sub (by omega) ?_ | refine gi_mul ?_ | refine go_nx rfl ?_)
  refine go_step ?_
  refine g_callV (by decide) (by decide) (Nat.le_of_ble_eq_true rfl) (Nat.le_of_ble_eq_true rfl) (cIx_rcv hI) (by omega) (Nat.le_of_ble_eq_true rfl) rfl ?_
  refine sp_pathAt hI (fun e => ?_) (fun p a k ww e hk hww ei ew hg hs => ?_)
  · have hdr : q_drp X i = false := by rw [drp_pth, show q_pth X i 0 = none from e]; rfl
    rw [hdr, if_neg (fun q => Bool.noConfusion q)] at hq
    refine gn_nnN ?_
    repeat (first | refine gc_n3 rfl ?_ | refine gc_n6 rfl ?_ | refine gc_n7 rfl ?_ | refine gc_n8 rfl ?_ | refine gc_n9 rfl ?_ | refine gi_con ?_ | refine gi_bip (Nat.le_of_ble_eq_true rfl) ?_ | refine gi_sip (Nat.le_of_ble_eq_true rfl) ?_ | refine gi_ldc ?_ | refine gi_add ?_ | refine gi_inc rfl ?_ | refine gi_sub (by omega) ?_ | refine gi_mul ?_ | refine go_nx rfl ?_)
    refine go_rt rfl ?_
    exact hq h g hI rfl rfl (kFr_r _ _ _)
  have hdr : q_drp X i = true := by rw [drp_pth, show q_pth X i 0 = some p from e]; rfl
  rw [hdr, if_pos rfl] at hq
  subst ei
  rw [nI_clamp (by omega)] at hq
  have hI0 := hI
  obtain ⟨⟨c1, c2⟩, i2, i3, i4, i5, i6, i7, i8, i9, i10⟩ := hI
  have hop : o ≠ pa := fun q => by rw [q, i4] at c1; cases c1
  have htp : ta ≠ pa := fun q => by rw [q, i4] at c2; cases c2
  refine gn_nnR ?_
  repeat (first | refine gc_n3 rfl ?_ | refine gc_n6 rfl ?_ | refine gc_n7 rfl ?_ | refine gc_n8 rfl ?_ | refine gc_n9 rfl ?_ | refine gi_con ?_ | refine gi_bip (Nat.le_of_ble_eq_true rfl) ?_ | refine gi_sip (Nat.le_of_ble_eq_true rfl) ?_ | refine gi_ldc ?_ | refine gi_add ?_ | refine gi_inc rfl ?_ | refine gi_sub (by omega) ?_ | refine gi_mul ?_ | refine go_nx rfl ?_)
  refine gf_get _ c1 (by decide) rfl ?_
  repeat (first | refine gc_n3 rfl ?_ | refine gc_n6 rfl ?_ | refine gc_n7 rfl ?_ | refine gc_n8 rfl ?_ | refine gc_n9 rfl ?_ | refine gi_con ?_ | refine gi_bip (Nat.le_of_ble_eq_true rfl) ?_ | refine gi_sip (Nat.le_of_ble_eq_true rfl) ?_ | refine gi_ldc ?_ | refine gi_add ?_ | refine gi_inc rfl ?_ | refine gi_sub (by omega) ?_ | refine gi_mul ?_ | refine go_nx rfl ?_)
  refine gc_aastN i4 (show 2 * k < 16 by omega) (by omega) ?_
  repeat (first | refine gc_n3 rfl ?_ | refine gc_n6 rfl ?_ | refine gc_n7 rfl ?_ | refine gc_n8 rfl ?_ | refine gc_n9 rfl ?_ | refine gi_con ?_ | refine gi_bip (Nat.le_of_ble_eq_true rfl) ?_ | refine gi_sip (Nat.le_of_ble_eq_true rfl) ?_ | refine gi_ldc ?_ | refine gi_add ?_ | refine gi_inc rfl ?_ | refine gi_sub (by omega) ?_ | refine gi_mul ?_ | refine go_nx rfl ?_)
  refine gf_get _ (show (mm_set h pa _).2.2 o = _ by rw [hs_ne hop]; exact c1) (by decide) rfl ?_
  repeat (first | refine gc_n3 rfl ?_ | refine gc_n6 rfl ?_ | refine gc_n7 rfl ?_ | refine gc_n8 rfl ?_ | refine gc_n9 rfl ?_ | refine gi_con ?_ | refine gi_bip (Nat.le_of_ble_eq_true rfl) ?_ | refine gi_sip (Nat.le_of_ble_eq_true rfl) ?_ | refine gi_ldc ?_ | refine gi_add ?_ | refine gi_inc rfl ?_ | refine gi_sub (by omega) ?_ | refine gi_mul ?_ | refine go_nx rfl ?_)
  refine gc_aastN hs_at (show 2 * k + 1 < 16 by omega) (by omega) ?_
  rw [hs_set]
  repeat (first | refine gc_n3 rfl ?_ | refine gc_n6 rfl ?_ | refine gc_n7 rfl ?_ | refine gc_n8 rfl ?_ | refine gc_n9 rfl ?_ | refine gi_con ?_ | refine gi_bip (Nat.le_of_ble_eq_true rfl) ?_ | refine gi_sip (Nat.le_of_ble_eq_true rfl) ?_ | refine gi_ldc ?_ | refine gi_add ?_ | refine gi_inc rfl ?_ | refine gi_sub (by omega) ?_ | refine gi_mul ?_ | refine go_nx rfl ?_)
  refine go_rt rfl ?_
  have hfr : kFr h (mm_set h pa (.inl (4, 16, .inr (.inr (.inr (.inr (uf (uf g (2 * k) none) (2 * k + 1) none))))))) own own ta := ⟨Nat.le_refl _, fun b hb => ⟨rfl, fun n1 n2 n3 n4 => hs_ne (fun q => n4 (16, .inr (.inr (.inr (.inr g)))) (by rw [q]; exact i4))⟩⟩
  refine hq _ (uf (uf g (2 * k) none) (2 * k + 1) none) (cIx_kFr hI0 hfr ⟨hOk_set2 i2.1 i4, i2.2⟩ ⟨by rw [hs_ne hop]; exact c1, by rw [hs_ne htp]; exact c2⟩ i3 hs_at (fun i w hi hw => ?_) (fun k1 k2 a h1 h2 h3 h4 => ?_)) rfl rfl hfr
  · by_cases hik : i = k
    · subst hik
      have hg' : uf (uf g (2 * i) none) (2 * i + 1) none (2 * i + w) = none := by
        rcases (show w = 0 ∨ w = 1 by omega) with q | q
        · subst q
          rw [uf_ne (by omega), Nat.add_zero, uf_at]
        · subst q
          rw [uf_at]
      have hX : q_pt2 (uf X i none) i w = none := by
        unfold q_pt2
        rw [uf_at]
      exact ⟨fun _ => hg', fun p hp => by rw [hX] at hp; cases hp⟩
    · have hX : q_pt2 (uf X k none) i w = q_pt2 X i w := by
        unfold q_pt2
        rw [uf_ne hik]
      have hg' : uf (uf g (2 * k) none) (2 * k + 1) none (2 * i + w) = g (2 * i + w) := by rw [uf_ne (by omega), uf_ne (by omega)]
      rw [hX, hg']
      refine ⟨(i9 i w hi hw).1, fun p hp => ?_⟩
      obtain ⟨a2, e1, e2⟩ := (i9 i w hi hw).2 p hp
      refine ⟨a2, e1, pSlot_k hfr i2.1 ⟨f, c2⟩ (hs_ne (fun q => ?_)) e2⟩
      obtain ⟨nm, seen, kept, q1, -⟩ := e2
      rw [q, i4] at q1
      cases q1
  · have hg' : ∀ j, uf (uf g (2 * k) none) (2 * k + 1) none j = some a → g j = some a := by
      intro j hj
      unfold uf at hj
      split at hj
      · cases hj
      · split at hj
        · cases hj
        · exact hj
    exact i10 k1 k2 a h1 h2 (hg' _ h3) (hg' _ h4)
end C
