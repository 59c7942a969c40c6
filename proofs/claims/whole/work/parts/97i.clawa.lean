/-! THE LAW: what holds between the calls -/
theorem gl_ia {E : mmE} {d m pc : Nat} {is : List mmI} {L S : List Value} {h : mmH} {Q : Option Value → mmH → Prop} {ex : List Nat} {b len i : Nat} {xs : Nat → Int32} (hsc : E.2.2 0 b = some (.inl (1, len, xs)) ∧ b < E.1 ∧ len ≤ 3072) (hk : hOk E h) (hi : i < len) (hg : mm_Go E d m is L (.int (xs i) :: S) h Q) : mm_Go E d m ((pc, .iaload, ex) :: is) L (.int (nI i) :: .ref b :: S) h Q := by
  refine go_nx (L' := L) (S' := .int (xs i) :: S) (h' := h) ?_ hg
  have hl := hsc.2.2
  have ha : mm_aI E h b = some (1, len, xs) := by unfold mm_aI; rw [hk.2.1 b hsc.2.1, hsc.1]
  show (match mm_aI E h b with
    | some (t, n, f) => if t = 1 ∧ mm_in (nI i) n = true then mm_nx L (.int (f (nI i).toNatClampNeg) :: S) h else mm_bad
    | none => mm_bad) = _
  rw [ha]
  dsimp only
  rw [if_pos ⟨rfl, decide_eq_true (vp_in_nI hi (by omega))⟩, nI_clamp (by omega)]
theorem gl_len {E : mmE} {h : mmH} {b len : Nat} {xs : Nat → Int32} (hsc : E.2.2 0 b = some (.inl (1, len, xs)) ∧ b < E.1 ∧ len ≤ 3072) (hk : hOk E h) : mm_len E h b = some len := by
  unfold mm_len
  rw [hk.2.1 b hsc.2.1, hsc.1]
theorem and15 (x : Int32) : ∃ j, j < 16 ∧ x &&& nI 15 = nI j := by
  refine ⟨(x &&& nI 15).toBitVec.toNat, ?_, ?_⟩
  · have : (x &&& nI 15).toBitVec = x.toBitVec &&& 15#32 := rfl
    rw [this, BitVec.toNat_and]
    exact Nat.lt_succ_of_le Nat.and_le_right
  · apply Int32.toBitVec_inj.mp
    show _ = BitVec.ofNat 32 _
    rw [BitVec.ofNat_toNat]
    simp
theorem and_sw : ∀ j, j < 16 → mm_sw 17 0 [2, 3, 4, 5, 6, 7, 8, 13, 14, 15, 16] (nI j) = [2, 3, 4, 5, 6, 7, 8, 13, 14, 15, 16].getD j 17 := by decide +kernel
section C
variable {E : mmE} {h h1 : mmH} {own own1 : Nat → Nat} {B N O : Nat → Nat} {row ta o pa : Nat} {t t' : qB} {F V F' V' : Option qB} {X X' : Nat → Option qX} {pl hl : Value} {f : Nat → Int32} {g : Nat → Option Nat} {om m : Nat} {R : Nat → Nat} {I I' : Nat → Int32} {C C' : Nat → Nat → Int32}
theorem feed_256 {l : List Int32} (ht : ∀ j, j < t.1 → t.2 j < 256) : ∀ j, j < (s_feed t l).1 → (s_feed t l).2 j < 256 := by
  intro j hj
  unfold s_feed at hj ⊢
  split
  · rename_i hc
    rw [if_pos hc] at hj
    exact ht j hj
  · rename_i hc
    rw [if_neg hc] at hj
    show (if j < t.1 then t.2 j else q_fedb l (j - t.1)) < 256
    split
    · exact ht j ‹_›
    · exact q_byte_lt _ _
theorem feed_len {l : List Int32} (ht : t.1 ≤ 2000) : (s_feed t l).1 ≤ 2000 ∧ (s_feed t l).1 ≤ t.1 + 20 := by
  unfold s_feed
  split
  · exact ⟨ht, by omega⟩
  · show t.1 + 20 ≤ 2000 ∧ t.1 + 20 ≤ t.1 + 20
    omega
theorem cIx_feed {l : List Int32} {f' : Nat → Int32} (hI : cIx E h own o t F V X ta pa pl hl f g N O row B) (hf : ∀ j, j < (s_feed t l).1 → f' j = sb_b ((s_feed t l).2 j)) : cInv E (cSt h o ta pa (s_feed t l).1 pl hl f') own o (s_feed t l) F V X ∧ kFr h (cSt h o ta pa (s_feed t l).1 pl hl f') own own ta := by
  have hI0 := hI
  obtain ⟨⟨c1, c2⟩, i2, i3, i4, i5, i6, i7, i8, i9, i10⟩ := hI
  have hto : ta ≠ o := fun q => by rw [q, c1] at c2; cases c2
  have hpo : pa ≠ o := fun q => by rw [q, c1] at i4; cases i4
  have hpt : pa ≠ ta := fun q => by rw [q, c2] at i4; cases i4
  have keep : ∀ b, b ≠ o → b ≠ ta → (cSt h o ta pa (s_feed t l).1 pl hl f').2.2 b = h.2.2 b := fun b h1 h2 => by
    unfold cSt
    rw [hs_ne h2, hs_ne h1]
  have hfr : kFr h (cSt h o ta pa (s_feed t l).1 pl hl f') own own ta := ⟨Nat.le_refl _, fun b hb => ⟨rfl, fun n1 n2 n3 n4 => keep b (fun q => n2 [.ref ta, .ref pa, .int (nI t.1), pl, hl] (by rw [q]; exact c1)) n1⟩⟩
  have hw : wOk E (cSt h o ta pa (s_feed t l).1 pl hl f') own := by
    refine ⟨?_, i2.2⟩
    unfold cSt
    exact hOk_set2 (hOk_set2 i2.1 c1) (show (mm_set h o _).2.2 ta = _ by rw [hs_ne hto]; exact c2)
  refine ⟨⟨ta, pa, pl, hl, f', g, N, O, row, B, cIx_kFr hI0 hfr hw (cSt_tp (Ne.symm hto)) ⟨(feed_len i3.1).1, fun j hj => ⟨hf j hj, feed_256 (fun j hj => (i3.2 j hj).2) j hj⟩⟩ (by rw [keep pa hpo hpt]; exact i4) (fun i w hi hw => ⟨(i9 i w hi hw).1, fun p hp => ?_⟩) i10⟩, hfr⟩
  obtain ⟨a, s1, s2⟩ := (i9 i w hi hw).2 p hp
  refine ⟨a, s1, pSlot_k hfr i2.1 ⟨f, c2⟩ ?_ s2⟩
  obtain ⟨nm, seen, kept, q1, -⟩ := s2
  exact keep a (fun q => by rw [q, c1] at q1; cases q1) (fun q => by rw [q, c2] at q1; cases q1)
/-- between two calls -/
def lI (E : mmE) (o om m : Nat) (t : qB) (F V : Option qB) (X : Nat → Option qX) (h : mmH) : Prop := ∃ own R I C, cInv E h own o t F V X ∧ mAt h om (fun k => om + mIdx k) I C ∧ mInv R I C t F V X ∧ h.1 + 36 * t.1 ≤ E.1 + 20 + 1171 * m ∧ h.2.1 + 560 * t.1 ≤ 57100 + 14100 * m
/-- between the class's call and the reference's -/
def lMid (E : mmE) (o om m : Nat) (t : qB) (F V : Option qB) (X : Nat → Option qX) (I : Nat → Int32) (C : Nat → Nat → Int32) (h : mmH) : Prop := (∃ own, cInv E h own o t F V X) ∧ mAt h om (fun k => om + mIdx k) I C ∧ hOk E h ∧ h.1 + 36 * t.1 ≤ E.1 + 20 + 1171 * (m + 1) ∧ h.2.1 + 560 * t.1 ≤ 57100 + 14100 * (m + 1)
theorem l_mid (hI : cIx E h own o t F V X ta pa pl hl f g N O row B) (hm : mAt h om (fun k => om + mIdx k) I C) (hf : kFr h h1 own own1 ta) (hc : cInv E h1 own1 o t' F' V' X') (r1 : h1.1 + 36 * t'.1 ≤ E.1 + 20 + 1171 * (m + 1)) (r2 : h1.2.1 + 560 * t'.1 ≤ 57100 + 14100 * (m + 1)) : lMid E o om m t' F' V' X' I C h1 := by
  have hk1 : hOk E h1 := by
    obtain ⟨_, _, _, _, _, _, _, _, _, _, -, w, -⟩ := hc
    exact w.1
  exact ⟨⟨own1, hc⟩, mAt_g (fun b c hb hc' => kFr_g hf hI.2.1.1 ⟨f, hI.1.2⟩ hb hc') hm, hk1, r1, r2⟩
theorem l_next (hm : lMid E o om m t F V X I C h) (hi : mInv R I' C' t F V X) : lI E o om (m + 1) t F V X (mH h om (fun k => om + mIdx k) I' C') := by
  obtain ⟨⟨own, a1⟩, a2, a3, a4, a5⟩ := hm
  exact ⟨own, R, I', C', cInv_j (jFr_mH (mD_idx om) a2) a1, mAt_mH (mD_idx om), hi, a4, a5⟩
theorem lMid_rcv (hm : lMid E o om m t F V X I C h) : mm_rcv E h 11 (some (.ref om)) = true := o_rcv hm.2.1.1 rfl (by decide)
theorem cIx_pl (hI : cIx E h own o t F V X ta pa pl hl f g N O row B) : pl = .null ∨ ∃ a, pl = .ref a := by
  cases hF : F with
  | none => exact Or.inl (hI.2.2.2.2.1 hF)
  | some b =>
    obtain ⟨-, -, fa, e, -⟩ := hI.2.2.2.2.2.1 b hF
    exact Or.inr ⟨fa, e⟩
end C
