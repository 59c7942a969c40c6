/-! THE CLASS: ArrayList.add at a place, countNotGreater -/
theorem nI_ushr {x : Nat} (hx : x < 2 ^ 31) : ((nI x).toUInt32 >>> ((nI 1).toUInt32 &&& Int32.toUInt32 31)).toInt32 = nI (x / 2) := by
  have h1 : ((nI 1).toUInt32 &&& Int32.toUInt32 31) = 1 := by decide
  have h2 : (nI x).toUInt32 = UInt32.ofNat x := rfl
  rw [h1, h2]
  have h3 : UInt32.ofNat x >>> 1 = UInt32.ofNat (x / 2) := by
    apply UInt32.toNat_inj.mp
    rw [UInt32.toNat_shiftRight, UInt32.toNat_ofNat', UInt32.toNat_ofNat', Nat.mod_eq_of_lt (show x < 2 ^ 32 by omega), Nat.mod_eq_of_lt (show x / 2 < 2 ^ 32 by omega), show (UInt32.toNat 1) % 32 = 1 from rfl, Nat.shiftRight_eq_div_pow]
  rw [h3]
  rfl
def l_at (l : List Nat) (i x : Nat) : List Nat := l.take i ++ x :: l.drop i
theorem l_at_len {l : List Nat} {i x : Nat} (hi : i ≤ l.length) : (l_at l i x).length = l.length + 1 := by
  unfold l_at
  rw [List.length_append, List.length_cons, List.length_take, List.length_drop]
  omega
theorem l_at_get {l : List Nat} {i x k : Nat} (hi : i ≤ l.length) : (l_at l i x).getD k 0 = if k < i then l.getD k 0 else if k = i then x else l.getD (k - 1) 0 := by
  unfold l_at
  rw [List.getD_eq_getElem?_getD, List.getD_eq_getElem?_getD, List.getD_eq_getElem?_getD]
  have ht : (l.take i).length = i := by rw [List.length_take]; omega
  by_cases h1 : k < i
  · rw [if_pos h1, List.getElem?_append_left (by omega), List.getElem?_take_of_lt h1]
  · rw [if_neg h1, List.getElem?_append_right (by omega), ht]
    by_cases h2 : k = i
    · rw [if_pos h2, h2, Nat.sub_self]
      rfl
    · rw [if_neg h2, show k - i = (k - i - 1) + 1 by omega, List.getElem?_cons_succ, List.getElem?_drop, show i + (k - i - 1) = k - 1 by omega]
section A
variable {E : mmE} {d : Nat} {h : mmH} {Q : Option Value → mmH → Prop} {a ed N : Nat} {l : List Nat}
theorem sp_addAt {x ci i : Nat} {fs : List Value} (hd : 6 ≤ d) (hE : sE E) (hk : hOk E h) (ha : aL E h a ed N l) (hx : h.2.2 x = some (.inr (ci, fs))) (hci : ci ≠ 3) (hN : N ≤ 40000) (hi : i ≤ l.length)
    (hq : ∀ h' ed' N', aNx E h h' a ed N (l_at l i x) ed' N' → Q none h') : mm_Go E d 74 (mm_blk 74 0) [.ref a, .int (nI i), .ref x, mm_un, mm_un] [] h Q := by
  have ha0 := ha
  obtain ⟨⟨mc, h1⟩, harr, hN1⟩ := ha
  have hxa : x ≠ a := fun q => by rw [q, h1] at hx; cases hx; exact hci rfl
  have hll := aL_len ha0
  have hxl := hOk_lt hk hx
  have hl' := l_at_len (l := l) (i := i) (x := x) hi
  have hget : ∀ (f : Nat → Option Nat), (∀ k, k < l.length → f k = some (l.getD k 0)) → ∀ k, k < (l_at l i x).length → uf (va_cpy f f i (i + 1) (l.length - i)) i (some x) k = some ((l_at l i x).getD k 0) := by
    intro f hf k hk'
    rw [l_at_get hi]
    by_cases h2 : k = i
    · rw [h2, uf_at, if_neg (Nat.lt_irrefl _), if_pos rfl]
    · rw [uf_ne h2, if_neg h2]
      unfold va_cpy
      by_cases h3 : k < i
      · rw [if_neg (by omega), if_pos h3]
        exact hf k (by omega)
      · rw [if_pos (by omega), if_neg h3, show i + (k - (i + 1)) = k - 1 by omega]
        exact hf (k - 1) (by omega)
  repeat (first | refine gi_con ?_ | refine gi_bip (Nat.le_of_ble_eq_true rfl) ?_ | refine gi_sip (Nat.le_of_ble_eq_true rfl) ?_ | refine gi_ldc ?_ | refine gi_add ?_ | refine gi_inc rfl ?_ | refine gi_sub (by omega) ?_ | refine gi_mul ?_ | refine go_nx rfl ?_)
  refine go_step ?_
  refine g_callV (by decide) (by decide) (Nat.le_of_ble_eq_true rfl) (Nat.le_of_ble_eq_true rfl) (aL_rcv ha0) (by omega) (Nat.le_of_ble_eq_true rfl) rfl ?_
  repeat (first | refine gi_con ?_ | refine gi_bip (Nat.le_of_ble_eq_true rfl) ?_ | refine gi_sip (Nat.le_of_ble_eq_true rfl) ?_ | refine gi_ldc ?_ | refine gi_add ?_ | refine gi_inc rfl ?_ | refine gi_sub (by omega) ?_ | refine gi_mul ?_ | refine go_nx rfl ?_)
  refine gf_get _ h1 (by decide) rfl ?_
  first | refine gb_lt (by omega) (by omega) (fun c0 => ?_) (fun c0 => ?_) | refine gb_ge (by omega) (by omega) (fun c0 => ?_) (fun c0 => ?_) | refine gb_gt (by omega) (by omega) (fun c0 => ?_) (fun c0 => ?_) | refine gb_le (by omega) (by omega) (fun c0 => ?_) (fun c0 => ?_) | refine gb_eq (by omega) (by omega) (fun c0 => ?_) (fun c0 => ?_) | refine gb_ne (by omega) (by omega) (fun c0 => ?_) (fun c0 => ?_)
  · omega
  repeat (first | refine gi_con ?_ | refine gi_bip (Nat.le_of_ble_eq_true rfl) ?_ | refine gi_sip (Nat.le_of_ble_eq_true rfl) ?_ | refine gi_ldc ?_ | refine gi_add ?_ | refine gi_inc rfl ?_ | refine gi_sub (by omega) ?_ | refine gi_mul ?_ | refine go_nx rfl ?_)
  first | refine gz_eq (by omega) (fun c1 => ?_) (fun c1 => ?_) | refine gz_ne (by omega) (fun c1 => ?_) (fun c1 => ?_) | refine gz_le (by omega) (fun c1 => ?_) (fun c1 => ?_) | refine gz_gt (by omega) (fun c1 => ?_) (fun c1 => ?_) | refine gz_lt (by omega) (fun c1 => ?_) (fun c1 => ?_) | refine gz_ge (by omega) (fun c1 => ?_) (fun c1 => ?_)
  rotate_left
  · exact c1.elim
  refine go_rt rfl ?_
  repeat (first | refine gi_con ?_ | refine gi_bip (Nat.le_of_ble_eq_true rfl) ?_ | refine gi_sip (Nat.le_of_ble_eq_true rfl) ?_ | refine gi_ldc ?_ | refine gi_add ?_ | refine gi_inc rfl ?_ | refine gi_sub (by omega) ?_ | refine gi_mul ?_ | refine go_nx rfl ?_)
  refine gf_get _ h1 (by decide) rfl ?_
  repeat (first | refine gi_con ?_ | refine gi_bip (Nat.le_of_ble_eq_true rfl) ?_ | refine gi_sip (Nat.le_of_ble_eq_true rfl) ?_ | refine gi_ldc ?_ | refine gi_add ?_ | refine gi_inc rfl ?_ | refine gi_sub (by omega) ?_ | refine gi_mul ?_ | refine go_nx rfl ?_)
  refine gc_put (fs' := [.ref ed, .int (nI l.length), .int (mc + nI 1)]) h1 rfl (Nat.le_of_ble_eq_true rfl) rfl rfl ?_
  have h1s : (mm_set h a (.inr (3, [.ref ed, .int (nI l.length), .int (mc + nI 1)]))).2.2 a = some (.inr (3, [.ref ed, .int (nI l.length), .int (mc + nI 1)])) := hs_at
  have has : aL E (mm_set h a (.inr (3, [.ref ed, .int (nI l.length), .int (mc + nI 1)]))) a ed N l := by
    refine ⟨⟨_, h1s⟩, ?_, hN1⟩
    rcases harr with n | ⟨n1, n2, f, n3, n4⟩
    · exact Or.inl n
    · exact Or.inr ⟨n1, n2, f, by rw [hs_ne (fun q => by rw [q, h1] at n3; cases n3)]; exact n3, n4⟩
  have hks := hOk_set2 (c' := .inr (3, [.ref ed, .int (nI l.length), .int (mc + nI 1)])) hk h1
  have hxs : (mm_set h a (.inr (3, [.ref ed, .int (nI l.length), .int (mc + nI 1)]))).2.2 x = some (.inr (ci, fs)) := by rw [hs_ne hxa]; exact hx
  have hfr0 : hFr h (mm_set h a (.inr (3, [.ref ed, .int (nI l.length), .int (mc + nI 1)]))) (fun b => b = a ∨ b = ed) := hFr_set (Or.inl rfl)
  have ks1 : (mm_set h a (.inr (3, [.ref ed, .int (nI l.length), .int (mc + nI 1)]))).1 = h.1 := rfl
  have ks2 : (mm_set h a (.inr (3, [.ref ed, .int (nI l.length), .int (mc + nI 1)]))).2.1 = h.2.1 := rfl
  generalize hH : mm_set h a (.inr (3, [.ref ed, .int (nI l.length), .int (mc + nI 1)])) = H at h1s has hks hxs hfr0 ks1 ks2 ⊢
  have hal := aL_alen hE hks has
  have hlt := hOk_lt hks h1s
  have hal' : mm_len E H ed = some N := hal
  /- the end: row e2 of N2 places -/
  have fin : ∀ (H2 : mmH) (e2 N2 : Nat) (mc2 : Int32) (f : Nat → Option Nat), hOk E H2 → H2.2.2 a = some (.inr (3, [.ref e2, .int (nI l.length), .int mc2])) → H2.2.2 e2 = some (aCell 3 N2 f) → (∀ k, k < l.length → f k = some (l.getD k 0)) → H2.2.2 x = some (.inr (ci, fs)) → l.length < N2 → 10 ≤ N2 → N2 ≤ 100000 → hFr h H2 (fun b => b = a ∨ b = ed) → (e2 = ed ∨ h.1 ≤ e2) → H2.1 ≤ h.1 + 1 → H2.2.1 + 4 * N ≤ h.2.1 + 4 * N2 → N ≤ N2 → (N2 = N ∨ N2 ≤ 2 * (l.length + 1) + 10) → h.2.1 ≤ H2.2.1 → mm_Go E d 74 (mm_blk 74 1) [.ref a, .int (nI i), .ref x, .int (nI l.length), .ref e2] [] H2 Q := by
    intro H2 e2 N2 mc2 f g1 g2 g3 g4 g5 g6 g7 g7' g8 g9 g10 g11 g12 g13 g14
    have hea : e2 ≠ a := fun q => by rw [q, g2] at g3; cases g3
    have hex : x ≠ e2 := fun q => by rw [← q, g5] at g3; cases g3
    repeat (first | refine gi_con ?_ | refine gi_bip (Nat.le_of_ble_eq_true rfl) ?_ | refine gi_sip (Nat.le_of_ble_eq_true rfl) ?_ | refine gi_ldc ?_ | refine gi_add ?_ | refine gi_inc rfl ?_ | refine gi_sub (by omega) ?_ | refine gi_mul ?_ | refine go_nx rfl ?_)
    refine gc_copyR (sp := i) (dp := i + 1) g3 g3 rfl (by omega) (by omega) (by omega) (by omega) (Nat.le_of_ble_eq_true rfl) ?_
    repeat (first | refine gi_con ?_ | refine gi_bip (Nat.le_of_ble_eq_true rfl) ?_ | refine gi_sip (Nat.le_of_ble_eq_true rfl) ?_ | refine gi_ldc ?_ | refine gi_add ?_ | refine gi_inc rfl ?_ | refine gi_sub (by omega) ?_ | refine gi_mul ?_ | refine go_nx rfl ?_)
    refine gc_aastR hs_at (show i < N2 by omega) (by omega) (o_may (by rw [hs_ne hex]; exact g5) (Or.inl ⟨rfl, hci⟩)) ?_
    have e1 : mm_set (mm_set H2 e2 (aCell 3 N2 (va_cpy f f i (i + 1) (l.length - i)))) e2 (aCell 3 N2 (uf (va_cpy f f i (i + 1) (l.length - i)) i (some x))) = mm_set H2 e2 (aCell 3 N2 (uf (va_cpy f f i (i + 1) (l.length - i)) i (some x))) := hs_set
    rw [show (Sum.inl (3, N2, Sum.inr (Sum.inr (Sum.inr (Sum.inr (uf (va_cpy f f i (i + 1) (l.length - i)) i (some x)))))) : mmC) = aCell 3 N2 (uf (va_cpy f f i (i + 1) (l.length - i)) i (some x)) from rfl, e1]
    have g2s : (mm_set H2 e2 (aCell 3 N2 (uf (va_cpy f f i (i + 1) (l.length - i)) i (some x)))).2.2 a = some (.inr (3, [.ref e2, .int (nI l.length), .int mc2])) := by rw [hs_ne (Ne.symm hea)]; exact g2
    repeat (first | refine gi_con ?_ | refine gi_bip (Nat.le_of_ble_eq_true rfl) ?_ | refine gi_sip (Nat.le_of_ble_eq_true rfl) ?_ | refine gi_ldc ?_ | refine gi_add ?_ | refine gi_inc rfl ?_ | refine gi_sub (by omega) ?_ | refine gi_mul ?_ | refine go_nx rfl ?_)
    refine gc_put (fs' := [.ref e2, .int (nI (l.length + 1)), .int mc2]) g2s rfl (Nat.le_of_ble_eq_true rfl) rfl rfl ?_
    refine go_rt rfl ?_
    refine hq _ e2 N2 ⟨⟨⟨mc2, by rw [hl']; exact hs_at⟩, Or.inr ⟨g7, by omega, _, by rw [hs_ne hea]; exact hs_at, hget f g4⟩, g7'⟩, hOk_set2 (hOk_set2 g1 g3) g2s, hFr_set2 (hFr_set2 g8 (g9.imp_left Or.inr)) (Or.inl (Or.inl rfl)), g9, g10, g11, g12, by rw [hl']; exact g13, g14⟩
  repeat (first | refine gi_con ?_ | refine gi_bip (Nat.le_of_ble_eq_true rfl) ?_ | refine gi_sip (Nat.le_of_ble_eq_true rfl) ?_ | refine gi_ldc ?_ | refine gi_add ?_ | refine gi_inc rfl ?_ | refine gi_sub (by omega) ?_ | refine gi_mul ?_ | refine go_nx rfl ?_)
  refine gf_get _ h1s (by decide) rfl ?_
  repeat (first | refine gi_con ?_ | refine gi_bip (Nat.le_of_ble_eq_true rfl) ?_ | refine gi_sip (Nat.le_of_ble_eq_true rfl) ?_ | refine gi_ldc ?_ | refine gi_add ?_ | refine gi_inc rfl ?_ | refine gi_sub (by omega) ?_ | refine gi_mul ?_ | refine go_nx rfl ?_)
  refine gf_get _ h1s (by decide) rfl ?_
  repeat (first | refine gi_con ?_ | refine gi_bip (Nat.le_of_ble_eq_true rfl) ?_ | refine gi_sip (Nat.le_of_ble_eq_true rfl) ?_ | refine gi_ldc ?_ | refine gi_add ?_ | refine gi_inc rfl ?_ | refine gi_sub (by omega) ?_ | refine gi_mul ?_ | refine go_nx rfl ?_)
  refine go_step (g_alen hal ?_)
  rw [show Int32.ofNat N = nI N from rfl]
  first | refine gb_lt (by omega) (by omega) (fun c => ?_) (fun c => ?_) | refine gb_ge (by omega) (by omega) (fun c => ?_) (fun c => ?_) | refine gb_gt (by omega) (by omega) (fun c => ?_) (fun c => ?_) | refine gb_le (by omega) (by omega) (fun c => ?_) (fun c => ?_) | refine gb_eq (by omega) (by omega) (fun c => ?_) (fun c => ?_) | refine gb_ne (by omega) (by omega) (fun c => ?_) (fun c => ?_)
  · rcases harr with ⟨n1, n2, n3⟩ | ⟨n1, n2, f, n3, n4⟩
    · rw [n2] at c
      exact absurd n1.symm c
    have hea : ed ≠ a := fun q => by rw [q, h1] at n3; cases n3
    have n3s : H.2.2 ed = some (aCell 3 N f) := by rw [← hH, hs_ne hea]; exact n3
    exact fin H ed N _ f hks h1s n3s n4 hxs (by omega) n1 hN1 hfr0 (Or.inl rfl) (by omega) (by omega) (Nat.le_refl _) (Or.inl rfl) (by omega)
  · repeat (first | refine gi_con ?_ | refine gi_bip (Nat.le_of_ble_eq_true rfl) ?_ | refine gi_sip (Nat.le_of_ble_eq_true rfl) ?_ | refine gi_ldc ?_ | refine gi_add ?_ | refine gi_inc rfl ?_ | refine gi_sub (by omega) ?_ | refine gi_mul ?_ | refine go_nx rfl ?_)
    refine go_step ?_
    refine g_callV (by decide) (by decide) (Nat.le_of_ble_eq_true rfl) (Nat.le_of_ble_eq_true rfl) (aL_rcv has) (by omega) (Nat.le_of_ble_eq_true rfl) rfl ?_
    refine sp_grow (by omega) hE hks has c (by omega) (fun mc2 f e1 e2 => ?_)
    have hgr := aGr_ge (N := N) (by rcases harr with ⟨n1, -⟩ | ⟨n1, -⟩ <;> omega)
    generalize hN' : aGr N = N' at hgr
    have kan : (mm_new H N' (aCell 3 N' f)).2.2 a = some (.inr (3, [.ref ed, .int (nI l.length), .int (mc + nI 1)])) := by rw [hn_ne (by omega)]; exact h1s
    repeat (first | refine gi_con ?_ | refine gi_bip (Nat.le_of_ble_eq_true rfl) ?_ | refine gi_sip (Nat.le_of_ble_eq_true rfl) ?_ | refine gi_ldc ?_ | refine gi_add ?_ | refine gi_inc rfl ?_ | refine gi_sub (by omega) ?_ | refine gi_mul ?_ | refine go_nx rfl ?_)
    refine go_jp rfl ?_
    refine fin _ H.1 N' mc2 f (hOk_set2 (hOk_new hks) kan) hs_at (by rw [hs_ne (by omega)]; exact hn_at) e2 (by rw [hs_ne hxa, hn_ne (by omega)]; exact hxs) (by omega) hgr.1 (by have := hgr.2.2.2; omega) (hFr_set2 (hFr_t hfr0 hFr_new) (Or.inl (Or.inl rfl))) (Or.inr (by omega)) ?_ ?_ (by omega) (Or.inr (by omega)) ?_
    · show H.1 + 1 ≤ h.1 + 1
      omega
    · show H.2.1 + N' + 4 * N ≤ h.2.1 + 4 * N'
      omega
    · show h.2.1 ≤ H.2.1 + N'
      omega
end A
