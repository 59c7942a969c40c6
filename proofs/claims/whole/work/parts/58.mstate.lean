/-! VALID DOCUMENTS: walking over elements -/
/-- a right chain of elements goes on at p, the i-th -/
def q_at (u : Nat → Bool) (k : Nat) (B : Nat → Nat) (row : Bool) (last p i : Nat) : Prop := ∃ f prev, prev.length = i ∧ q_ch u (q_box u B k) B row last f prev p = true
section W
variable {u : Nat → Bool} {k : Nat} {B : Nat → Nat} {row : Bool} {last p i v stop : Nat}
theorem q_at_le (h : q_at u k B row last p i) : p ≤ last := by
  obtain ⟨f, prev, -, h⟩ := h
  cases f with
  | zero => cases h
  | succ f =>
    unfold q_ch at h
    split at h
    · omega
    · exact Nat.le_of_eq (of_decide_eq_true h)
theorem q_at_el (h : q_at u k B row last p i) (hp : p < last) : q_ne B p < last ∧ q_vok (q_box u B k) B p last = true ∧ u p = true ∧ (row = true → q_dec B (p + 1) (q_ne B p + 1) (q_ne B p) i = true) ∧ q_at u k B row last (q_next B p) (i + 1) := by
  obtain ⟨f, prev, hl, h⟩ := h
  cases f with
  | zero => cases h
  | succ f =>
    unfold q_ch at h
    rw [if_pos hp, Bool.and_eq_true] at h
    obtain ⟨h1, h2⟩ := h
    unfold q_el at h1
    simp only [Bool.and_eq_true, decide_eq_true_eq] at h1
    obtain ⟨⟨⟨h3, h4⟩, h5⟩, h6⟩ := h1
    refine ⟨h3, h5, h6, fun hr => ?_, f, prev ++ [p], by rw [List.length_append, hl]; rfl, h2⟩
    unfold q_nm at h4
    rw [if_pos hr, hl] at h4
    exact h4
theorem q_box_at (h : q_box u B (k + 1) v stop row = true) : v + 5 ≤ stop ∧ 5 ≤ q_sz B v ∧ v + q_sz B v ≤ stop ∧ q_at u k B row (q_last B v) (v + 4) 0 := by
  unfold q_box at h
  simp only [Bool.and_eq_true, decide_eq_true_eq] at h
  exact ⟨h.1.1.1.1, h.1.1.1.2, h.1.1.2, 2001, [], rfl, h.2⟩
theorem q_box_pos (h : q_box u B k v stop row = true) : 1 ≤ k := by
  cases k with
  | zero => cases h
  | succ k => omega
theorem q_at_box (h : q_vok (q_box u B k) B p last = true) : (B p = 3 → q_box u B k (q_val B p) last false = true) ∧ (B p = 4 → q_box u B k (q_val B p) last true = true) := by
  unfold q_vok at h
  refine ⟨fun q => ?_, fun q => ?_⟩
  · rw [if_neg (by omega), if_neg (by omega), if_neg (by omega), if_neg (by omega), if_neg (by omega), if_pos q] at h
    exact h
  · rw [if_neg (by omega), if_neg (by omega), if_neg (by omega), if_neg (by omega), if_neg (by omega), if_neg (by omega), if_pos q] at h
    exact h
theorem q_vok_kind (h : q_vok (q_box u B k) B p last = true) : B p = 16 ∨ B p = 18 ∨ B p = 8 ∨ B p = 2 ∨ B p = 10 ∨ B p = 3 ∨ B p = 4 := by
  unfold q_vok at h
  by_cases h1 : B p = 16
  · exact Or.inl h1
  by_cases h2 : B p = 18
  · exact Or.inr (Or.inl h2)
  by_cases h3 : B p = 8
  · exact Or.inr (Or.inr (Or.inl h3))
  by_cases h4 : B p = 2
  · exact Or.inr (Or.inr (Or.inr (Or.inl h4)))
  by_cases h5 : B p = 10
  · exact Or.inr (Or.inr (Or.inr (Or.inr (Or.inl h5))))
  by_cases h6 : B p = 3
  · exact Or.inr (Or.inr (Or.inr (Or.inr (Or.inr (Or.inl h6)))))
  by_cases h7 : B p = 4
  · exact Or.inr (Or.inr (Or.inr (Or.inr (Or.inr (Or.inr h7)))))
  rw [if_neg h1, if_neg h2, if_neg h3, if_neg h4, if_neg h5, if_neg h6, if_neg h7] at h
  cases h
theorem q_at_ok {n : Nat} (h : q_at u k B row last p i) (hp : p < last) (hl : last ≤ n) : q_ok B n p := by
  obtain ⟨h1, h2, -⟩ := q_at_el h hp
  have := q_vok_ok h1 h2
  exact ⟨by omega, by omega, by omega, this.2⟩
end W
/-! THE REFERENCE'S STATE: I its numbers, C its rows, at the cells ad, over a heap h -/
def uf {α : Type} (f : Nat → α) (k : Nat) (x : α) : Nat → α := fun j => if j = k then x else f j
theorem uf_at {α : Type} (f : Nat → α) (k : Nat) (x : α) : uf f k x k = x := if_pos rfl
theorem uf_ne {α : Type} {f : Nat → α} {k j : Nat} {x : α} (h : j ≠ k) : uf f k x j = f j := if_neg h
def mKs : List Nat := [1, 5, 6, 7, 8, 12, 13, 14, 15, 17]
def mTag (k : Nat) : Nat := if k = 1 then 0 else if k = 5 then 2 else 1
def mLen (k : Nat) : Nat := if k = 1 then 22100 else if k < 12 then 8 else if k < 14 then 120 else if k = 14 then 3 else if k = 15 then 24000 else 8000
def mFl (I : Nat → Int32) (ad : Nat → Nat) : List Value := [.int (I 0), .ref (ad 1), .int (I 2), .int (I 3), .int (I 4), .ref (ad 5), .ref (ad 6), .ref (ad 7), .ref (ad 8), .int (I 9), .int (I 10), .int (I 11), .ref (ad 12), .ref (ad 13), .ref (ad 14), .ref (ad 15), .int (I 16), .ref (ad 17)]
def mH (h : mmH) (o : Nat) (ad : Nat → Nat) (I : Nat → Int32) (C : Nat → Nat → Int32) : mmH := (h.1, h.2.1, fun a => if a = o then some (.inr (10, mFl I ad)) else match mKs.find? (fun k => ad k == a) with
  | some k => some (.inl (mTag k, mLen k, .inl (C k)))
  | none => h.2.2 a)
def mD (o : Nat) (ad : Nat → Nat) : Prop := (∀ k ∈ mKs, ad k ≠ o) ∧ ∀ k ∈ mKs, ∀ j ∈ mKs, ad k = ad j → k = j
section MH
variable {h : mmH} {o : Nat} {ad : Nat → Nat} {I : Nat → Int32} {C : Nat → Nat → Int32} {k : Nat}
theorem mH_o : (mH h o ad I C).2.2 o = some (.inr (10, mFl I ad)) := if_pos rfl
theorem mH_find (hD : mD o ad) (hk : k ∈ mKs) : mKs.find? (fun j => ad j == ad k) = some k := by
  cases hf : mKs.find? (fun j => ad j == ad k) with
  | none =>
    have := List.find?_eq_none.mp hf k hk
    simp at this
  | some j =>
    have h1 := List.find?_some hf
    have h2 := List.mem_of_find?_eq_some hf
    rw [hD.2 j h2 k hk (by simpa using h1)]
theorem mH_a (hD : mD o ad) (hk : k ∈ mKs) : (mH h o ad I C).2.2 (ad k) = some (.inl (mTag k, mLen k, .inl (C k))) := by
  show (if ad k = o then _ else _) = _
  rw [if_neg (hD.1 k hk), mH_find hD hk]
theorem mH_other {a : Nat} (h1 : a ≠ o) (h2 : ∀ k ∈ mKs, a ≠ ad k) : (mH h o ad I C).2.2 a = h.2.2 a := by
  show (if a = o then _ else _) = _
  rw [if_neg h1]
  have : mKs.find? (fun j => ad j == a) = none := by
    rw [List.find?_eq_none]
    intro j hj
    simpa using (h2 j hj).symm
  rw [this]
theorem mH_put {v : Int32} (hk : k ∈ [0, 2, 3, 4, 9, 10, 11, 16]) : mm_set (mH h o ad I C) o (.inr (10, (mFl I ad).set k (.int v))) = mH h o ad (uf I k v) C := by
  have e : (mFl I ad).set k (.int v) = mFl (uf I k v) ad := by
    simp only [List.mem_cons, List.not_mem_nil, or_false] at hk
    rcases hk with rfl | rfl | rfl | rfl | rfl | rfl | rfl | rfl <;> rfl
  rw [e]
  refine Prod.ext rfl (Prod.ext rfl ?_)
  funext a
  show va_up (mH h o ad I C).2.2 o _ a = _
  unfold va_up
  by_cases ha : a = o
  · rw [if_pos ha, ha, mH_o]
  · rw [if_neg ha]
    show (if a = o then _ else _) = (if a = o then _ else _)
    rw [if_neg ha, if_neg ha]
theorem mH_arr {f : Nat → Int32} (hD : mD o ad) (hk : k ∈ mKs) : mm_set (mH h o ad I C) (ad k) (.inl (mTag k, mLen k, .inl f)) = mH h o ad I (uf C k f) := by
  refine Prod.ext rfl (Prod.ext rfl ?_)
  funext a
  show va_up (mH h o ad I C).2.2 (ad k) _ a = _
  unfold va_up
  by_cases ha : a = ad k
  · rw [if_pos ha, ha, mH_a hD hk, uf_at]
  · rw [if_neg ha]
    show (if a = o then _ else _) = (if a = o then _ else _)
    by_cases ho : a = o
    · rw [if_pos ho, if_pos ho]
    · rw [if_neg ho, if_neg ho]
      cases hf : mKs.find? (fun k => ad k == a) with
      | none => rfl
      | some j =>
        have h1 := List.find?_some hf
        have h2 : ad j = a := by simpa using h1
        have h3 : j ≠ k := fun q => ha (by rw [← h2, q])
        dsimp only
        rw [uf_ne h3]
theorem mH_st {R : Nat → Nat} (hD : mD o ad) (hC : ∀ j, j < 22100 → C 1 j = sb_b (R j)) (hR : ∀ j, R j < 256) : mSt (mH h o ad I C) o (ad 1) R := ⟨⟨_, mH_o, rfl⟩, ⟨C 1, mH_a hD (by decide), hC⟩, hR⟩
theorem mH_rcv {E : mmE} : mm_rcv E (mH h o ad I C) 11 (some (.ref o)) = true := by
  unfold mm_rcv
  dsimp only
  rw [if_neg (by decide), mH_o]
  rfl
section GO
variable {E : mmE} {d m pc idx : Nat} {is : List mmI} {L S : List Value} {Q : Option Value → mmH → Prop} {ex : List Nat}
theorem gm_get (v : Value) (h0 : mm_k0 ex = 10) (hv : (mFl I ad)[mm_k1 ex]? = some v) (hg : mm_Go E d m is L (v :: S) (mH h o ad I C) Q) : mm_Go E d m ((pc, .getfield idx, ex) :: is) L (.ref o :: S) (mH h o ad I C) Q := gf_get v (by rw [h0]; exact mH_o) (by rw [h0]; decide) hv hg
theorem gm_put {x : Int32} (k : Nat) (h0 : mm_k0 ex = 10) (h1 : mm_k1 ex = k) (hk : k ∈ [0, 2, 3, 4, 9, 10, 11, 16]) (hf : mm_fit (mm_k2 ex) (.int x) = true) (hg : mm_Go E d m is L S (mH h o ad (uf I k x) C) Q) : mm_Go E d m ((pc, .putfield idx, ex) :: is) L (.int x :: .ref o :: S) (mH h o ad I C) Q := by
  subst h1
  refine go_nx (L' := L) (S' := S) (h' := mm_set (mH h o ad I C) o (.inr (10, (mFl I ad).set (mm_k1 ex) (.int x)))) ?_ ?_
  · show (match (mH h o ad I C).2.2 o with
      | some (.inr (ci, fs)) => if ci = mm_k0 ex ∧ mm_k1 ex < fs.length ∧ mm_fit (mm_k2 ex) (.int x) = true then mm_nx L S (mm_set (mH h o ad I C) o (.inr (ci, fs.set (mm_k1 ex) (.int x)))) else mm_bad
      | _ => mm_bad) = _
    rw [mH_o]
    refine if_pos ⟨h0.symm, ?_, hf⟩
    simp only [List.mem_cons, List.not_mem_nil, or_false] at hk
    show mm_k1 ex < 18
    omega
  · rw [mH_put hk]
    exact hg
theorem gm_ild {i : Nat} (hD : mD o ad) (hk : k ∈ mKs) (ht : mTag k = 1) (hi : i < mLen k) (hl : mLen k < 2 ^ 31) (hg : mm_Go E d m is L (.int (C k i) :: S) (mH h o ad I C) Q) : mm_Go E d m ((pc, .iaload, ex) :: is) L (.int (nI i) :: .ref (ad k) :: S) (mH h o ad I C) Q := by
  refine go_nx (L' := L) (S' := .int (C k i) :: S) (h' := mH h o ad I C) ?_ hg
  have ha : mm_aI E (mH h o ad I C) (ad k) = some (mTag k, mLen k, C k) := by unfold mm_aI; rw [mH_a hD hk]
  show (match mm_aI E (mH h o ad I C) (ad k) with
    | some (t, n, f) => if t = 1 ∧ mm_in (nI i) n = true then mm_nx L (.int (f (nI i).toNatClampNeg) :: S) (mH h o ad I C) else mm_bad
    | none => mm_bad) = _
  rw [ha]
  dsimp only
  rw [if_pos ⟨ht, decide_eq_true (vp_in_nI hi hl)⟩, nI_clamp (by omega)]
theorem gm_bld {i : Nat} (hD : mD o ad) (hk : k ∈ mKs) (ht : mTag k = 0 ∨ mTag k = 2) (hi : i < mLen k) (hl : mLen k < 2 ^ 31) (hg : mm_Go E d m is L (.int (C k i) :: S) (mH h o ad I C) Q) : mm_Go E d m ((pc, .baload, ex) :: is) L (.int (nI i) :: .ref (ad k) :: S) (mH h o ad I C) Q := by
  have ha : mm_aI E (mH h o ad I C) (ad k) = some (mTag k, mLen k, C k) := by unfold mm_aI; rw [mH_a hD hk]
  refine go_step (g_bald ha ht (decide_eq_true (vp_in_nI hi hl)) ?_)
  rw [nI_clamp (by omega)]
  exact hg
theorem up_uf {f : Nat → Int32} {i : Nat} {x : Int32} : upd f i x = uf f i x := rfl
theorem gm_ist {i : Nat} {x : Int32} (hD : mD o ad) (hk : k ∈ mKs) (ht : mTag k = 1) (hi : i < mLen k) (hl : mLen k < 2 ^ 31) (hg : mm_Go E d m is L S (mH h o ad I (uf C k (uf (C k) i x))) Q) : mm_Go E d m ((pc, .iastore, ex) :: is) L (.int x :: .int (nI i) :: .ref (ad k) :: S) (mH h o ad I C) Q := by
  refine go_nx (L' := L) (S' := S) (h' := mm_set (mH h o ad I C) (ad k) (.inl (mTag k, mLen k, .inl (upd (C k) i x)))) ?_ ?_
  · show (match (mH h o ad I C).2.2 (ad k) with
      | some (.inl (t, n, .inl f)) => if t = 1 ∧ mm_in (nI i) n = true then mm_nx L S (mm_set (mH h o ad I C) (ad k) (.inl (t, n, .inl (upd f (nI i).toNatClampNeg x)))) else mm_bad
      | _ => mm_bad) = _
    rw [mH_a hD hk]
    dsimp only
    rw [if_pos ⟨ht, decide_eq_true (vp_in_nI hi hl)⟩, nI_clamp (by omega)]
  · rw [up_uf, mH_arr hD hk]
    exact hg
theorem gm_bst {i : Nat} {x : Int32} (hD : mD o ad) (hk : k ∈ mKs) (ht : mTag k = 0 ∨ mTag k = 2) (hi : i < mLen k) (hl : mLen k < 2 ^ 31) (hg : mm_Go E d m is L S (mH h o ad I (uf C k (uf (C k) i (mm_nar (mTag k) x)))) Q) : mm_Go E d m ((pc, .bastore, ex) :: is) L (.int x :: .int (nI i) :: .ref (ad k) :: S) (mH h o ad I C) Q := by
  refine go_nx (L' := L) (S' := S) (h' := mm_set (mH h o ad I C) (ad k) (.inl (mTag k, mLen k, .inl (upd (C k) i (mm_nar (mTag k) x))))) ?_ ?_
  · show (match (mH h o ad I C).2.2 (ad k) with
      | some (.inl (t, n, .inl f)) => if (t = 0 ∨ t = 2) ∧ mm_in (nI i) n = true then mm_nx L S (mm_set (mH h o ad I C) (ad k) (.inl (t, n, .inl (upd f (nI i).toNatClampNeg (mm_nar t x))))) else mm_bad
      | _ => mm_bad) = _
    rw [mH_a hD hk]
    dsimp only
    rw [if_pos ⟨ht, decide_eq_true (vp_in_nI hi hl)⟩, nI_clamp (by omega)]
  · rw [up_uf, mH_arr hD hk]
    exact hg
end GO
end MH
