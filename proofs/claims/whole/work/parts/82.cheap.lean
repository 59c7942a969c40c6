/-! THE CLASS: rules for its cells -/
section HS
variable {h : mmH} {a b : Nat} {c c' : mmC} {n : Nat}
theorem hs_at : (mm_set h a c).2.2 a = some c := if_pos rfl
theorem hs_ne (hab : b ≠ a) : (mm_set h a c).2.2 b = h.2.2 b := if_neg hab
theorem hn_at : (mm_new h n c).2.2 h.1 = some c := if_pos rfl
theorem hn_ne (hb : b ≠ h.1) : (mm_new h n c).2.2 b = h.2.2 b := if_neg hb
theorem va_up2 {α : Type} (f : Nat → α) (k : Nat) (x y : α) : va_up (va_up f k x) k y = va_up f k y := uf_uf f k x y
theorem hs_set : mm_set (mm_set h a c) a c' = mm_set h a c' := by
  unfold mm_set
  rw [va_up2]
theorem hn_set : mm_set (mm_new h n c) h.1 c' = mm_new h n c' := by
  unfold mm_set mm_new
  rw [va_up2]
end HS
/-- a sound heap: nothing beyond the next address, nothing of the start's -/
def hOk (E : mmE) (h : mmH) : Prop := E.1 ≤ h.1 ∧ (∀ a, a < E.1 → h.2.2 a = none) ∧ ∀ a, h.1 ≤ a → h.2.2 a = none
theorem hOk_lt {E : mmE} {h : mmH} {a : Nat} {c : mmC} (hk : hOk E h) (ha : h.2.2 a = some c) : a < h.1 := by
  by_cases hlt : a < h.1
  · exact hlt
  · rw [hk.2.2 a (by omega)] at ha
    cases ha
theorem hOk_old {E : mmE} {h : mmH} (hk : hOk E h) : sOld E h := hk.2.1
theorem hOk_set {E : mmE} {h : mmH} {a : Nat} {c : mmC} (hk : hOk E h) (ha : h.2.2 a ≠ none) : hOk E (mm_set h a c) := by
  refine ⟨hk.1, fun b hb => ?_, fun b hb => ?_⟩
  · rw [hs_ne (fun q => ha (by rw [← q]; exact hk.2.1 b hb))]
    exact hk.2.1 b hb
  · have hb : h.1 ≤ b := hb
    rw [hs_ne (fun q => ha (by rw [← q]; exact hk.2.2 b hb))]
    exact hk.2.2 b hb
theorem hOk_new {E : mmE} {h : mmH} {n : Nat} {c : mmC} (hk : hOk E h) : hOk E (mm_new h n c) := by
  refine ⟨Nat.le_trans hk.1 (Nat.le_succ _), fun b hb => ?_, fun b hb => ?_⟩
  · rw [hn_ne (by have := hk.1; omega)]
    exact hk.2.1 b hb
  · have hb : h.1 + 1 ≤ b := hb
    rw [hn_ne (by omega)]
    exact hk.2.2 b (by omega)
/-- from h to h': only what W says has changed of what was there -/
def hFr (h h' : mmH) (W : Nat → Prop) : Prop := h.1 ≤ h'.1 ∧ ∀ a, a < h.1 → ¬ W a → h'.2.2 a = h.2.2 a
theorem hFr_r (h : mmH) (W : Nat → Prop) : hFr h h W := ⟨Nat.le_refl _, fun _ _ _ => rfl⟩
theorem hFr_t {h h' h'' : mmH} {W : Nat → Prop} (h1 : hFr h h' W) (h2 : hFr h' h'' W) : hFr h h'' W := ⟨Nat.le_trans h1.1 h2.1, fun a ha hw => (h2.2 a (Nat.lt_of_lt_of_le ha h1.1) hw).trans (h1.2 a ha hw)⟩
theorem hFr_m {h h' : mmH} {W W' : Nat → Prop} (hf : hFr h h' W) (hW : ∀ a, a < h.1 → W a → W' a) : hFr h h' W' := ⟨hf.1, fun a ha hw => hf.2 a ha (fun q => hw (hW a ha q))⟩
theorem hFr_set {h : mmH} {a : Nat} {c : mmC} {W : Nat → Prop} (hW : W a) : hFr h (mm_set h a c) W := ⟨Nat.le_refl _, fun b _ hw => hs_ne (fun q => hw (by rw [q]; exact hW))⟩
theorem hFr_new {h : mmH} {n : Nat} {c : mmC} {W : Nat → Prop} : hFr h (mm_new h n c) W := ⟨Nat.le_succ _, fun b hb _ => hn_ne (by omega)⟩
section GO
variable {E : mmE} {d m pc idx : Nat} {is : List mmI} {L S : List Value} {h : mmH} {Q : Option Value → mmH → Prop} {ex : List Nat} {off : Int}
theorem gc_put {a ci : Nat} {fs fs' : List Value} {v : Value} (ha : h.2.2 a = some (.inr (ci, fs))) (h0 : ci = mm_k0 ex) (hk : mm_k1 ex < fs.length) (hf : mm_fit (mm_k2 ex) v = true) (hs : fs.set (mm_k1 ex) v = fs') (hg : mm_Go E d m is L S (mm_set h a (.inr (ci, fs'))) Q) : mm_Go E d m ((pc, .putfield idx, ex) :: is) L (v :: .ref a :: S) h Q := by
  subst hs
  refine go_nx (L' := L) (S' := S) (h' := mm_set h a (.inr (ci, fs.set (mm_k1 ex) v))) ?_ hg
  show (match h.2.2 a with
    | some (.inr (ci, fs)) => if ci = mm_k0 ex ∧ mm_k1 ex < fs.length ∧ mm_fit (mm_k2 ex) v = true then mm_nx L S (mm_set h a (.inr (ci, fs.set (mm_k1 ex) v))) else mm_bad
    | _ => mm_bad) = _
  rw [ha]
  exact if_pos ⟨h0, hk, hf⟩
theorem gc_aald {a t n i : Nat} {f : Nat → Option Nat} (ha : h.2.2 a = some (.inl (t, n, .inr (.inr (.inr (.inr f)))))) (hi : i < n) (hn : n < 2 ^ 31) (hg : mm_Go E d m is L (va_rf (f i) :: S) h Q) : mm_Go E d m ((pc, .aaload, ex) :: is) L (.int (nI i) :: .ref a :: S) h Q := by
  refine go_nx (L' := L) (S' := va_rf (f i) :: S) (h' := h) ?_ hg
  show (match h.2.2 a with
    | some (.inl (_, n, .inr (.inr (.inr (.inr f))))) => if mm_in (nI i) n = true then mm_nx L (va_rf (f (nI i).toNatClampNeg) :: S) h else mm_bad
    | _ => mm_bad) = _
  rw [ha]
  dsimp only
  rw [if_pos (show mm_in (nI i) n = true from decide_eq_true (vp_in_nI hi hn)), nI_clamp (by omega)]
theorem gc_aastN {a t n i : Nat} {f : Nat → Option Nat} (ha : h.2.2 a = some (.inl (t, n, .inr (.inr (.inr (.inr f)))))) (hi : i < n) (hn : n < 2 ^ 31) (hg : mm_Go E d m is L S (mm_set h a (.inl (t, n, .inr (.inr (.inr (.inr (uf f i none))))))) Q) : mm_Go E d m ((pc, .aastore, ex) :: is) L (.null :: .int (nI i) :: .ref a :: S) h Q := by
  refine go_nx (L' := L) (S' := S) (h' := mm_set h a (.inl (t, n, .inr (.inr (.inr (.inr (uf f i none))))))) ?_ hg
  show (match h.2.2 a with
    | some (.inl (t, n, .inr (.inr (.inr (.inr f))))) => if mm_in (nI i) n = true then mm_nx L S (mm_set h a (.inl (t, n, .inr (.inr (.inr (.inr (va_up f (nI i).toNatClampNeg none))))))) else mm_bad
    | _ => mm_bad) = _
  rw [ha]
  dsimp only
  rw [if_pos (show mm_in (nI i) n = true from decide_eq_true (vp_in_nI hi hn)), nI_clamp (by omega)]
  rfl
theorem gc_aastR {a t n i b : Nat} {f : Nat → Option Nat} (ha : h.2.2 a = some (.inl (t, n, .inr (.inr (.inr (.inr f)))))) (hi : i < n) (hn : n < 2 ^ 31) (hm : mm_may h t b = true) (hg : mm_Go E d m is L S (mm_set h a (.inl (t, n, .inr (.inr (.inr (.inr (uf f i (some b)))))))) Q) : mm_Go E d m ((pc, .aastore, ex) :: is) L (.ref b :: .int (nI i) :: .ref a :: S) h Q := by
  refine go_nx (L' := L) (S' := S) (h' := mm_set h a (.inl (t, n, .inr (.inr (.inr (.inr (uf f i (some b)))))))) ?_ hg
  show (match h.2.2 a with
    | some (.inl (t, n, .inr (.inr (.inr (.inr f))))) => if mm_in (nI i) n = true ∧ mm_may h t b = true then mm_nx L S (mm_set h a (.inl (t, n, .inr (.inr (.inr (.inr (va_up f (nI i).toNatClampNeg (some b)))))))) else mm_bad
    | _ => mm_bad) = _
  rw [ha]
  dsimp only
  rw [if_pos (show mm_in (nI i) n = true ∧ mm_may h t b = true from ⟨decide_eq_true (vp_in_nI hi hn), hm⟩), nI_clamp (by omega)]
  rfl
theorem gc_alen {a t n : Nat} {x : vp_A} (ha : h.2.2 a = some (.inl (t, x))) (hx : x.1 = n) (hg : mm_Go E d m is L (.int (nI n) :: S) h Q) : mm_Go E d m ((pc, .arraylength, ex) :: is) L (.ref a :: S) h Q := by
  subst hx
  refine go_step (g_alen (n := x.1) ?_ hg)
  unfold mm_len
  rw [ha]
theorem gc_cast0 {a ci : Nat} {fs : List Value} (ha : h.2.2 a = some (.inr (ci, fs))) (h0 : mm_k0 ex = 0) (h1 : mm_k1 ex = ci) (hg : mm_Go E d m is L (.ref a :: S) h Q) : mm_Go E d m ((pc, .checkcast idx, ex) :: is) L (.ref a :: S) h Q := by
  refine go_nx (L' := L) (S' := .ref a :: S) (h' := h) ?_ hg
  show (match h.2.2 a with
    | some (.inr (ci, _)) => if mm_k0 ex = 0 ∧ ci = mm_k1 ex then mm_nx L (.ref a :: S) h else mm_bad
    | some (.inl (t, _)) => if mm_k0 ex = 1 ∧ t = mm_k1 ex then mm_nx L (.ref a :: S) h else mm_bad
    | none => mm_bad) = _
  rw [ha]
  exact if_pos ⟨h0, h1.symm⟩
theorem gc_cast1 {a t : Nat} {x : vp_A} (ha : h.2.2 a = some (.inl (t, x))) (h0 : mm_k0 ex = 1) (h1 : mm_k1 ex = t) (hg : mm_Go E d m is L (.ref a :: S) h Q) : mm_Go E d m ((pc, .checkcast idx, ex) :: is) L (.ref a :: S) h Q := by
  refine go_nx (L' := L) (S' := .ref a :: S) (h' := h) ?_ hg
  show (match h.2.2 a with
    | some (.inr (ci, _)) => if mm_k0 ex = 0 ∧ ci = mm_k1 ex then mm_nx L (.ref a :: S) h else mm_bad
    | some (.inl (t, _)) => if mm_k0 ex = 1 ∧ t = mm_k1 ex then mm_nx L (.ref a :: S) h else mm_bad
    | none => mm_bad) = _
  rw [ha]
  exact if_pos ⟨h0, h1.symm⟩
theorem gn_nN (hg : mm_Go E d m (mm_blk m (mm_k0 ex)) L S h Q) : mm_Go E d m ((pc, .ifnull off, ex) :: is) L (.null :: S) h Q := go_br (c := true) rfl (fun _ => hg) (fun c => by cases c)
theorem gn_nR {a : Nat} (hg : mm_Go E d m is L S h Q) : mm_Go E d m ((pc, .ifnull off, ex) :: is) L (.ref a :: S) h Q := go_br (c := false) rfl (fun c => by cases c) (fun _ => hg)
theorem gn_nnN (hg : mm_Go E d m is L S h Q) : mm_Go E d m ((pc, .ifnonnull off, ex) :: is) L (.null :: S) h Q := go_br (c := false) rfl (fun c => by cases c) (fun _ => hg)
theorem gn_nnR {a : Nat} (hg : mm_Go E d m (mm_blk m (mm_k0 ex)) L S h Q) : mm_Go E d m ((pc, .ifnonnull off, ex) :: is) L (.ref a :: S) h Q := go_br (c := true) rfl (fun _ => hg) (fun c => by cases c)
theorem gc_newB {n : Nat} (hn : n ≤ 1000000) (h0 : mm_k0 ex = 0) (hg : mm_Go E d m is L (.ref h.1 :: S) (mm_new h n (.inl (0, n, .inl fun _ => 0))) Q) {at_ : ArrayType} : mm_Go E d m ((pc, .newarray at_, ex) :: is) L (.int (nI n) :: S) h Q := by
  refine go_nx (L' := L) (S' := .ref h.1 :: S) (h' := mm_new h n (.inl (0, n, .inl fun _ => 0))) ?_ hg
  show (if nI n < 0 ∨ 1000000 < nI n then mm_bad else mm_nx L (.ref h.1 :: S) (mm_new h (nI n).toNatClampNeg (.inl (mm_k0 ex, (nI n).toNatClampNeg, .inl fun _ => 0)))) = _
  rw [if_neg (fun q => q.elim (nI_pos (by omega)) (fun q => absurd ((nI_ltI (a := 1000000) (by decide) (by omega)).mp q) (by omega))), nI_clamp (by omega), h0]
theorem gc_newA {n t : Nat} (hn : n ≤ 1000000) (h0 : mm_k0 ex = t) (hg : mm_Go E d m is L (.ref h.1 :: S) (mm_new h n (.inl (t, n, .inr (.inr (.inr (.inr fun _ => none)))))) Q) : mm_Go E d m ((pc, .anewarray idx, ex) :: is) L (.int (nI n) :: S) h Q := by
  refine go_nx (L' := L) (S' := .ref h.1 :: S) (h' := mm_new h n (.inl (t, n, .inr (.inr (.inr (.inr fun _ => none)))))) ?_ hg
  show (if nI n < 0 ∨ 1000000 < nI n then mm_bad else mm_nx L (.ref h.1 :: S) (mm_new h (nI n).toNatClampNeg (.inl (mm_k0 ex, (nI n).toNatClampNeg, .inr (.inr (.inr (.inr fun _ => none))))))) = _
  rw [if_neg (fun q => q.elim (nI_pos (by omega)) (fun q => absurd ((nI_ltI (a := 1000000) (by decide) (by omega)).mp q) (by omega))), nI_clamp (by omega), h0]
end GO
theorem o_rcv {E : mmE} {h : mmH} {a ci rk : Nat} {fs : List Value} (ha : h.2.2 a = some (.inr (ci, fs))) (hr : ci + 1 = rk) (h100 : rk ≠ 100) : mm_rcv E h rk (some (.ref a)) = true := by
  unfold mm_rcv
  dsimp only
  rw [if_neg h100, ha]
  simp [hr]
theorem o_may {h : mmH} {b ci t : Nat} {fs : List Value} (hb : h.2.2 b = some (.inr (ci, fs))) (hc : t = 3 ∧ ci ≠ 3 ∨ t = 4 ∧ ci = 1) : mm_may h t b = true := by
  unfold mm_may
  rw [hb]
  rcases hc with ⟨rfl, hc⟩ | ⟨rfl, rfl⟩
  · simp [hc]
  · simp
