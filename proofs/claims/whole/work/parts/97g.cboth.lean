/-! BOTH IN ONE HEAP -/
/-- a cell of the reference -/
def mCl (c : mmC) : Prop := (∃ fs, c = .inr (10, fs)) ∨ (∃ x, c = .inl (1, x)) ∨ (∃ x, c = .inl (2, x)) ∨ ∃ f, c = .inl (0, 22100, f)
/-- but for the reference's cells all stays -/
def jFr (h h' : mmH) : Prop := h'.1 = h.1 ∧ h'.2.1 = h.2.1 ∧ (∀ b c, h.2.2 b = some c → ¬ mCl c → h'.2.2 b = some c) ∧ ∀ b, h.2.2 b = none → h'.2.2 b = none
theorem not_mCl_o {ci : Nat} {fs : List Value} (h : ci ≠ 10) : ¬ mCl (.inr (ci, fs)) := by
  intro q
  rcases q with ⟨a, q⟩ | ⟨a, q⟩ | ⟨a, q⟩ | ⟨a, q⟩
  · cases q; exact h rfl
  all_goals cases q
theorem not_mCl_a {t : Nat} {x : vp_A} (h1 : t ≠ 1) (h2 : t ≠ 2) (h3 : t = 0 → x.1 ≠ 22100) : ¬ mCl (.inl (t, x)) := by
  intro q
  rcases q with ⟨a, q⟩ | ⟨a, q⟩ | ⟨a, q⟩ | ⟨a, q⟩
  · cases q
  · cases q; exact h1 rfl
  · cases q; exact h2 rfl
  · cases q; exact h3 rfl rfl
section C
variable {E : mmE} {h h' : mmH} {B N O : Nat → Nat} {row n : Nat} {own own' : Nat → Nat} {ta o : Nat} {t : qB} {F V : Option qB} {X : Nat → Option qX}
theorem jFr_o (hj : jFr h h') {b ci : Nat} {fs : List Value} (hb : h.2.2 b = some (.inr (ci, fs))) (hc : ci ≠ 10) : h'.2.2 b = h.2.2 b := by rw [hb]; exact hj.2.2.1 b _ hb (not_mCl_o hc)
theorem hOk_j (hj : jFr h h') (hk : hOk E h) : hOk E h' := ⟨by rw [hj.1]; exact hk.1, fun a ha => hj.2.2.2 a (hk.2.1 a ha), fun a ha => hj.2.2.2 a (hk.2.2 a (by rw [← hj.1]; exact ha))⟩
theorem wOk_j (hj : jFr h h') (hw : wOk E h own) : wOk E h' own := ⟨hOk_j hj hw.1, fun b => by rw [hj.1]; exact hw.2 b⟩
theorem gL_j {a cap : Nat} {l : List Nat} (hj : jFr h h') (ha : gL E h own a cap l) : gL E h' own a cap l := by
  obtain ⟨ed, ⟨⟨mc, hm⟩, harr, hN⟩, ho⟩ := ha
  refine ⟨ed, ⟨⟨mc, by rw [jFr_o hj hm (by decide)]; exact hm⟩, ?_, hN⟩, ho⟩
  rcases harr with q | ⟨n1, n2, f, n3, n4⟩
  · exact Or.inl q
  · exact Or.inr ⟨n1, n2, f, hj.2.2.1 _ _ n3 (not_mCl_a (by decide) (by decide) (fun q => absurd q (by decide))), n4⟩
theorem bR_j {l : List Nat} {R : List qR} (hj : jFr h h') (ha : bR h N O l R) : bR h' N O l R := ⟨ha.1, fun k hk' => iAt_s (fun b ci fs hb hc => jFr_o hj hb (by rcases hc with q | q <;> rw [q] <;> decide)) (ha.2 k hk')⟩
theorem nB_j {k v : Nat} (hj : jFr h h') (ha : nBox h row B N O k v) : nBox h' row B N O k v := nBox_sub (fun b c hb => jFr_o hj hb (by decide)) ha
theorem bRow_j (hj : jFr h h') (ha : bRow h row n B) : bRow h' row n B := by
  refine bRow_eq ha ?_
  obtain ⟨hn, ⟨f, r2, -⟩, -⟩ := ha
  rw [r2]
  exact hj.2.2.1 _ _ r2 (not_mCl_a (by decide) (by decide) (fun _ => by show n ≠ 22100; omega))
theorem clAt_j {ob : Nat → Nat → Int32} {T c e a o : Nat} {Z : List (Nat × Nat × Nat)} (hj : jFr h h') (hc : clAt E h own N O ob B T Z c e a o) : clAt E h' own N O ob B T Z c e a o := by
  obtain ⟨cA, cO, la, lo, RA, RO, q1, q2, q3, q4, q5, q6, q7, q8⟩ := hc
  exact ⟨cA, cO, la, lo, RA, RO, by rw [jFr_o hj q1 (by decide)]; exact q1, gL_j hj q2, bR_j hj q3, q4, gL_j hj q5, bR_j hj q6, q7, q8⟩
theorem fDat_j {fa : Nat} (hj : jFr h h') (hf : fDat E h own fa n B row N O) : fDat E h' own fa n B row N O := by
  obtain ⟨hrow, hbx, hflt, hO, hx, T, cl, S, g0, g1, cc, cs, hT, fa1, f2, ⟨lsp, f3⟩, f4, lc, es, al, on, a1, a2, a3, a4, a5, a6, a7, a8⟩ := hf
  exact ⟨hrow, hbx, hflt, hO, ⟨bRow_j hj hx.1, nB_j hj hx.2⟩, T, cl, S, g0, g1, cc, cs, hT, by rw [jFr_o hj fa1 (by decide)]; exact fa1, f2, ⟨lsp, gL_j hj f3⟩, f4, lc, es, al, on, gL_j hj a1, a2, a3, a4, fun i hi => ⟨clAt_j hj (a5 i hi).1, (a5 i hi).2⟩, a6, a7, a8⟩
theorem kOk_j {p : qP} {v : Value} (hj : jFr h h') (hv : kOk E h own N O B p v) : kOk E h' own N O B p v := by
  rcases hv with q | ⟨a, cap, l, R, q1, q2, q3, q4⟩
  · exact Or.inl q
  · exact Or.inr ⟨a, cap, l, R, q1, q2, gL_j hj q3, bR_j hj q4⟩
theorem cInv_j (hj : jFr h h') (hI : cInv E h own o t F V X) : cInv E h' own o t F V X := by
  obtain ⟨ta, pa, pl, hl, f, g, N, O, row, B, ⟨c1, c2⟩, i2, i3, i4, i5, i6, i7, i8, i9, i10⟩ := hI
  refine ⟨ta, pa, pl, hl, f, g, N, O, row, B, ⟨by rw [jFr_o hj c1 (by decide)]; exact c1, hj.2.2.1 _ _ c2 (not_mCl_a (by decide) (by decide) (fun _ => by show (2000 : Nat) ≠ 22100; decide))⟩, wOk_j hj i2, i3, hj.2.2.1 _ _ i4 (not_mCl_a (by decide) (by decide) (fun q => absurd q (by decide))), i5, fun b hb => ?_, i7, fun v hv => ?_, fun i w hi hw => ⟨(i9 i w hi hw).1, fun p hp => ?_⟩, i10⟩
  · obtain ⟨e1, e2, fa, e3, e4⟩ := i6 b hb
    exact ⟨e1, e2, fa, e3, fDat_j hj e4⟩
  · obtain ⟨a, row2, e1, e2, N2, O2, v1, v2, v3, v4, v5, v6, v7⟩ := i8 v hv
    exact ⟨a, row2, e1, e2, N2, O2, v1, v2, v3, v4, bRow_j hj v5, nB_j hj v6, v7⟩
  · obtain ⟨a, e1, nm, seen, kept, q1, q2, q3, q4, q5⟩ := (i9 i w hi hw).2 p hp
    exact ⟨a, e1, nm, seen, kept, by rw [jFr_o hj q1 (by decide)]; exact q1, bRow_j hj q2, q3, q4.imp_right (fun ⟨s, z1, z2⟩ => ⟨s, z1, by rw [hj.1]; exact z2⟩), fun fa z1 z2 => kOk_j hj (q5 fa z1 z2)⟩
/-- the class's calls leave the reference's cells -/
theorem kFr_g (hf : kFr h h' own own' ta) (hk : hOk E h) (ht : tAt h ta) {b : Nat} {c : mmC} (hb : h.2.2 b = some c) (hc : mCl c) : h'.2.2 b = some c := by
  rw [← hb]
  refine (hf.2 b (hOk_lt hk hb)).2 (fun q => ?_) (fun fs q => ?_) (fun fs q => ?_) (fun x q => ?_)
  · obtain ⟨f, hf'⟩ := ht
    rw [q, hf'] at hb
    cases hb
    exact not_mCl_a (by decide) (by decide) (fun _ => by show (2000 : Nat) ≠ 22100; decide) hc
  · rw [hb] at q; cases q; exact not_mCl_o (by decide) hc
  · rw [hb] at q; cases q; exact not_mCl_o (by decide) hc
  · rw [hb] at q; cases q; exact not_mCl_a (by decide) (by decide) (fun q => absurd q (by decide)) hc
end C
section M
variable {h h' : mmH} {o : Nat} {ad : Nat → Nat} {I I' : Nat → Int32} {C C' : Nat → Nat → Int32}
/-- the reference stands in the heap -/
def mAt (h : mmH) (o : Nat) (ad : Nat → Nat) (I : Nat → Int32) (C : Nat → Nat → Int32) : Prop := h.2.2 o = some (.inr (10, mFl I ad)) ∧ ∀ k ∈ mKs, h.2.2 (ad k) = some (.inl (mTag k, mLen k, .inl (C k)))
theorem mH_self (hD : mD o ad) (hm : mAt h o ad I C) : mH h o ad I C = h := by
  refine Prod.ext rfl (Prod.ext rfl ?_)
  funext a
  by_cases h1 : a = o
  · rw [h1, mH_o, hm.1]
  · by_cases h2 : ∃ k ∈ mKs, a = ad k
    · obtain ⟨k, hk, e⟩ := h2
      rw [e, mH_a hD hk, hm.2 k hk]
    · exact mH_other h1 (fun k hk e => h2 ⟨k, hk, e⟩)
theorem mAt_mH (hD : mD o ad) : mAt (mH h o ad I C) o ad I C := ⟨mH_o, fun _ hk => mH_a hD hk⟩
theorem mCl_k : ∀ k ∈ mKs, ∀ f : Nat → Int32, mCl (.inl (mTag k, mLen k, .inl f)) := by
  intro k hk f
  simp only [mKs, List.mem_cons, List.not_mem_nil, or_false] at hk
  rcases hk with q | q | q | q | q | q | q | q | q | q <;> subst q
  · exact Or.inr (Or.inr (Or.inr ⟨_, rfl⟩))
  · exact Or.inr (Or.inr (Or.inl ⟨_, rfl⟩))
  all_goals exact Or.inr (Or.inl ⟨_, rfl⟩)
theorem mAt_g (hg : ∀ b c, h.2.2 b = some c → mCl c → h'.2.2 b = some c) (hm : mAt h o ad I C) : mAt h' o ad I C := ⟨hg _ _ hm.1 (Or.inl ⟨_, rfl⟩), fun k hk => hg _ _ (hm.2 k hk) (mCl_k k hk _)⟩
theorem jFr_mH (hD : mD o ad) (hm : mAt h o ad I C) : jFr h (mH h o ad I' C') := by
  refine ⟨rfl, rfl, fun b c hb hc => ?_, fun b hb => ?_⟩
  · rw [mH_other (fun q => ?_) (fun k hk q => ?_)]
    · exact hb
    · rw [q, hm.1] at hb
      cases hb
      exact hc (Or.inl ⟨_, rfl⟩)
    · rw [q, hm.2 k hk] at hb
      cases hb
      exact hc (mCl_k k hk _)
  · rw [mH_other (fun q => ?_) (fun k hk q => ?_)]
    · exact hb
    · rw [q, hm.1] at hb
      cases hb
    · rw [q, hm.2 k hk] at hb
      cases hb
end M
