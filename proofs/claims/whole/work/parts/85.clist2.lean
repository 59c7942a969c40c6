section A
variable {E : mmE} {d : Nat} {h : mmH} {Q : Option Value → mmH → Prop} {a ed N : Nat} {l : List Nat}
/-- what a call on a list leaves: the list, all else but its own cells, the room -/
def aNx (E : mmE) (h h' : mmH) (a ed N : Nat) (l' : List Nat) (ed' N' : Nat) : Prop := aL E h' a ed' N' l' ∧ hOk E h' ∧ hFr h h' (fun b => b = a ∨ b = ed) ∧ (ed' = ed ∨ h.1 ≤ ed') ∧ h'.1 ≤ h.1 + 1 ∧ h'.2.1 + 4 * N ≤ h.2.1 + 4 * N' ∧ N ≤ N' ∧ (N' = N ∨ N' ≤ 2 * l'.length + 10) ∧ h.2.1 ≤ h'.2.1
theorem hFr_set2 {h h' : mmH} {b : Nat} {c : mmC} {W : Nat → Prop} (hf : hFr h h' W) (hW : W b ∨ h.1 ≤ b) : hFr h (mm_set h' b c) W := ⟨hf.1, fun x hx hw => by
  rw [hs_ne (fun q => hW.elim (fun z => hw (by rw [q]; exact z)) (fun z => by omega))]
  exact hf.2 x hx hw⟩
theorem hOk_set2 {E : mmE} {h : mmH} {b : Nat} {c c' : mmC} (hk : hOk E h) (hb : h.2.2 b = some c) : hOk E (mm_set h b c') := hOk_set hk (by rw [hb]; exact fun q => by cases q)
theorem aGr_ge {N : Nat} (hN : N = 0 ∨ 10 ≤ N) : 10 ≤ aGr N ∧ N < aGr N ∧ 4 * N ≤ 3 * aGr N ∧ aGr N ≤ 2 * N + 10 := by
  unfold aGr
  split <;> omega
theorem sp_add41 {x ci : Nat} {fs : List Value} (hd : 5 ≤ d) (hE : sE E) (hk : hOk E h) (ha : aL E h a ed N l) (hx : h.2.2 x = some (.inr (ci, fs))) (hci : ci ≠ 3) (hN : N ≤ 40000)
    (hq : ∀ h' ed' N', aNx E h h' a ed N (l ++ [x]) ed' N' → Q none h') : mm_Go E d 41 (mm_blk 41 0) [.ref a, .ref x, .ref ed, .int (nI l.length)] [] h Q := by
  have ha0 := ha
  obtain ⟨⟨mc, h1⟩, harr, hN1⟩ := ha
  have hal := aL_alen hE hk ha0
  have hll := aL_len ha0
  have hlt := hOk_lt hk h1
  have hxa : x ≠ a := fun q => by rw [q, h1] at hx; cases hx; exact hci rfl
  have hxl := hOk_lt hk hx
  have hl' : (l ++ [x]).length = l.length + 1 := by rw [List.length_append]; rfl
  have hget : ∀ (f : Nat → Option Nat), (∀ k, k < l.length → f k = some (l.getD k 0)) → ∀ k, k < (l ++ [x]).length → uf f l.length (some x) k = some ((l ++ [x]).getD k 0) := by
    intro f hf k hk'
    by_cases hkl : k = l.length
    · rw [hkl, uf_at, List.getD_eq_getElem?_getD, List.getElem?_append_right (Nat.le_refl _), Nat.sub_self]
      rfl
    · rw [uf_ne hkl, hf k (by omega), List.getD_eq_getElem?_getD, List.getD_eq_getElem?_getD, List.getElem?_append_left (by omega)]
  repeat (first | refine gi_con ?_ | refine gi_bip (Nat.le_of_ble_eq_true rfl) ?_ | refine gi_sip (Nat.le_of_ble_eq_true rfl) ?_ | refine gi_ldc ?_ | refine gi_add ?_ | refine gi_inc rfl ?_ | refine gi_sub (by omega) ?_ | refine gi_mul ?_ | refine go_nx rfl ?_)
  refine go_step (g_alen hal ?_)
  rw [show Int32.ofNat N = nI N from rfl]
  first | refine gb_lt (by omega) (by omega) (fun c => ?_) (fun c => ?_) | refine gb_ge (by omega) (by omega) (fun c => ?_) (fun c => ?_) | refine gb_gt (by omega) (by omega) (fun c => ?_) (fun c => ?_) | refine gb_le (by omega) (by omega) (fun c => ?_) (fun c => ?_) | refine gb_eq (by omega) (by omega) (fun c => ?_) (fun c => ?_) | refine gb_ne (by omega) (by omega) (fun c => ?_) (fun c => ?_)
  · rcases harr with ⟨n1, n2, n3⟩ | ⟨n1, n2, f, n3, n4⟩
    · rw [n2] at c
      exact absurd n1.symm c
    have hea : ed ≠ a := fun q => by rw [q, h1] at n3; cases n3
    repeat (first | refine gi_con ?_ | refine gi_bip (Nat.le_of_ble_eq_true rfl) ?_ | refine gi_sip (Nat.le_of_ble_eq_true rfl) ?_ | refine gi_ldc ?_ | refine gi_add ?_ | refine gi_inc rfl ?_ | refine gi_sub (by omega) ?_ | refine gi_mul ?_ | refine go_nx rfl ?_)
    refine gc_aastR n3 (show l.length < N by omega) (by omega) (o_may hx (Or.inl ⟨rfl, hci⟩)) ?_
    have h1s : (mm_set h ed (aCell 3 N (uf f l.length (some x)))).2.2 a = some (.inr (3, [.ref ed, .int (nI l.length), .int mc])) := by rw [hs_ne (Ne.symm hea)]; exact h1
    repeat (first | refine gi_con ?_ | refine gi_bip (Nat.le_of_ble_eq_true rfl) ?_ | refine gi_sip (Nat.le_of_ble_eq_true rfl) ?_ | refine gi_ldc ?_ | refine gi_add ?_ | refine gi_inc rfl ?_ | refine gi_sub (by omega) ?_ | refine gi_mul ?_ | refine go_nx rfl ?_)
    refine gc_put (fs' := [.ref ed, .int (nI (l.length + 1)), .int mc]) h1s rfl (Nat.le_of_ble_eq_true rfl) rfl rfl ?_
    refine go_rt rfl ?_
    refine hq _ ed N ⟨⟨⟨mc, by rw [hl']; exact hs_at⟩, Or.inr ⟨n1, by omega, _, by rw [hs_ne hea]; exact hs_at, hget f n4⟩, hN1⟩, hOk_set2 (hOk_set2 hk n3) h1s, hFr_set2 (hFr_set (Or.inr rfl)) (Or.inl (Or.inl rfl)), Or.inl rfl, Nat.le_succ _, Nat.le_refl _, Nat.le_refl _, Or.inl rfl, Nat.le_refl _⟩
  · repeat (first | refine gi_con ?_ | refine gi_bip (Nat.le_of_ble_eq_true rfl) ?_ | refine gi_sip (Nat.le_of_ble_eq_true rfl) ?_ | refine gi_ldc ?_ | refine gi_add ?_ | refine gi_inc rfl ?_ | refine gi_sub (by omega) ?_ | refine gi_mul ?_ | refine go_nx rfl ?_)
    refine go_step ?_
    refine g_callV (by decide) (by decide) (Nat.le_of_ble_eq_true rfl) (Nat.le_of_ble_eq_true rfl) (aL_rcv ha0) (by omega) (Nat.le_of_ble_eq_true rfl) rfl ?_
    refine sp_grow (by omega) hE hk ha0 c (by omega) (fun mc2 f e1 e2 => ?_)
    have hgr := aGr_ge (N := N) (by rcases harr with ⟨n1, -⟩ | ⟨n1, -⟩ <;> omega)
    generalize hN' : aGr N = N' at hgr
    have ka : (mm_set (mm_new h N' (aCell 3 N' f)) a (.inr (3, [.ref h.1, .int (nI l.length), .int mc2]))).2.2 h.1 = some (aCell 3 N' f) := by rw [hs_ne (by omega)]; exact hn_at
    have kx : (mm_set (mm_new h N' (aCell 3 N' f)) a (.inr (3, [.ref h.1, .int (nI l.length), .int mc2]))).2.2 x = some (.inr (ci, fs)) := by rw [hs_ne hxa, hn_ne (by omega)]; exact hx
    have kan : (mm_new h N' (aCell 3 N' f)).2.2 a = some (.inr (3, [.ref ed, .int (nI l.length), .int mc])) := by rw [hn_ne (by omega)]; exact h1
    repeat (first | refine gi_con ?_ | refine gi_bip (Nat.le_of_ble_eq_true rfl) ?_ | refine gi_sip (Nat.le_of_ble_eq_true rfl) ?_ | refine gi_ldc ?_ | refine gi_add ?_ | refine gi_inc rfl ?_ | refine gi_sub (by omega) ?_ | refine gi_mul ?_ | refine go_nx rfl ?_)
    refine go_jp rfl ?_
    repeat (first | refine gi_con ?_ | refine gi_bip (Nat.le_of_ble_eq_true rfl) ?_ | refine gi_sip (Nat.le_of_ble_eq_true rfl) ?_ | refine gi_ldc ?_ | refine gi_add ?_ | refine gi_inc rfl ?_ | refine gi_sub (by omega) ?_ | refine gi_mul ?_ | refine go_nx rfl ?_)
    refine gc_aastR ka (show l.length < N' by omega) (by have := hgr.2.2.2; omega) (o_may kx (Or.inl ⟨rfl, hci⟩)) ?_
    have h1s : (mm_set (mm_set (mm_new h N' (aCell 3 N' f)) a (.inr (3, [.ref h.1, .int (nI l.length), .int mc2]))) h.1 (aCell 3 N' (uf f l.length (some x)))).2.2 a = some (.inr (3, [.ref h.1, .int (nI l.length), .int mc2])) := by rw [hs_ne (by omega)]; exact hs_at
    repeat (first | refine gi_con ?_ | refine gi_bip (Nat.le_of_ble_eq_true rfl) ?_ | refine gi_sip (Nat.le_of_ble_eq_true rfl) ?_ | refine gi_ldc ?_ | refine gi_add ?_ | refine gi_inc rfl ?_ | refine gi_sub (by omega) ?_ | refine gi_mul ?_ | refine go_nx rfl ?_)
    refine gc_put (fs' := [.ref h.1, .int (nI (l.length + 1)), .int mc2]) h1s rfl (Nat.le_of_ble_eq_true rfl) rfl rfl ?_
    refine go_rt rfl ?_
    refine hq _ h.1 N' ⟨⟨⟨mc2, by rw [hl']; exact hs_at⟩, Or.inr ⟨hgr.1, by omega, _, by rw [hs_ne (by omega)]; exact hs_at, hget f e2⟩, by have := hgr.2.2.2; omega⟩, hOk_set2 (hOk_set2 (hOk_set2 (hOk_new hk) kan) ka) h1s, hFr_set2 (hFr_set2 (hFr_set2 hFr_new (Or.inl (Or.inl rfl))) (Or.inr (Nat.le_refl _))) (Or.inl (Or.inl rfl)), Or.inr (Nat.le_refl _), Nat.le_refl _, ?_, by omega, Or.inr (by omega), Nat.le_add_right _ _⟩
    show h.2.1 + N' + 4 * N ≤ h.2.1 + 4 * N'
    omega
theorem sp_add {x ci : Nat} {fs : List Value} (hd : 6 ≤ d) (hE : sE E) (hk : hOk E h) (ha : aL E h a ed N l) (hx : h.2.2 x = some (.inr (ci, fs))) (hci : ci ≠ 3) (hN : N ≤ 40000)
    (hq : ∀ h' ed' N', aNx E h h' a ed N (l ++ [x]) ed' N' → Q (some (.int (nI 1))) h') : mm_Go E d 40 (mm_blk 40 0) [.ref a, .ref x] [] h Q := by
  have ha0 := ha
  obtain ⟨⟨mc, h1⟩, harr, hN1⟩ := ha
  have hxa : x ≠ a := fun q => by rw [q, h1] at hx; cases hx; exact hci rfl
  repeat (first | refine gi_con ?_ | refine gi_bip (Nat.le_of_ble_eq_true rfl) ?_ | refine gi_sip (Nat.le_of_ble_eq_true rfl) ?_ | refine gi_ldc ?_ | refine gi_add ?_ | refine gi_inc rfl ?_ | refine gi_sub (by omega) ?_ | refine gi_mul ?_ | refine go_nx rfl ?_)
  refine gf_get _ h1 (by decide) rfl ?_
  repeat (first | refine gi_con ?_ | refine gi_bip (Nat.le_of_ble_eq_true rfl) ?_ | refine gi_sip (Nat.le_of_ble_eq_true rfl) ?_ | refine gi_ldc ?_ | refine gi_add ?_ | refine gi_inc rfl ?_ | refine gi_sub (by omega) ?_ | refine gi_mul ?_ | refine go_nx rfl ?_)
  refine gc_put (fs' := [.ref ed, .int (nI l.length), .int (mc + nI 1)]) h1 rfl (Nat.le_of_ble_eq_true rfl) rfl rfl ?_
  have h1s : (mm_set h a (.inr (3, [.ref ed, .int (nI l.length), .int (mc + nI 1)]))).2.2 a = some (.inr (3, [.ref ed, .int (nI l.length), .int (mc + nI 1)])) := hs_at
  have has : aL E (mm_set h a (.inr (3, [.ref ed, .int (nI l.length), .int (mc + nI 1)]))) a ed N l := by
    refine ⟨⟨_, h1s⟩, ?_, hN1⟩
    rcases harr with n | ⟨n1, n2, f, n3, n4⟩
    · exact Or.inl n
    · exact Or.inr ⟨n1, n2, f, by rw [hs_ne (fun q => by rw [q, h1] at n3; cases n3)]; exact n3, n4⟩
  have hks := hOk_set2 (c' := .inr (3, [.ref ed, .int (nI l.length), .int (mc + nI 1)])) hk h1
  repeat (first | refine gi_con ?_ | refine gi_bip (Nat.le_of_ble_eq_true rfl) ?_ | refine gi_sip (Nat.le_of_ble_eq_true rfl) ?_ | refine gi_ldc ?_ | refine gi_add ?_ | refine gi_inc rfl ?_ | refine gi_sub (by omega) ?_ | refine gi_mul ?_ | refine go_nx rfl ?_)
  refine gf_get _ h1s (by decide) rfl ?_
  repeat (first | refine gi_con ?_ | refine gi_bip (Nat.le_of_ble_eq_true rfl) ?_ | refine gi_sip (Nat.le_of_ble_eq_true rfl) ?_ | refine gi_ldc ?_ | refine gi_add ?_ | refine gi_inc rfl ?_ | refine gi_sub (by omega) ?_ | refine gi_mul ?_ | refine go_nx rfl ?_)
  refine gf_get _ h1s (by decide) rfl ?_
  repeat (first | refine gi_con ?_ | refine gi_bip (Nat.le_of_ble_eq_true rfl) ?_ | refine gi_sip (Nat.le_of_ble_eq_true rfl) ?_ | refine gi_ldc ?_ | refine gi_add ?_ | refine gi_inc rfl ?_ | refine gi_sub (by omega) ?_ | refine gi_mul ?_ | refine go_nx rfl ?_)
  refine go_step ?_
  refine g_callV (by decide) (by decide) (Nat.le_of_ble_eq_true rfl) (Nat.le_of_ble_eq_true rfl) (aL_rcv has) (by omega) (Nat.le_of_ble_eq_true rfl) rfl ?_
  refine sp_add41 (by omega) hE hks has (by rw [hs_ne hxa]; exact hx) hci hN (fun h' ed' N' hn => ?_)
  repeat (first | refine gi_con ?_ | refine gi_bip (Nat.le_of_ble_eq_true rfl) ?_ | refine gi_sip (Nat.le_of_ble_eq_true rfl) ?_ | refine gi_ldc ?_ | refine gi_add ?_ | refine gi_inc rfl ?_ | refine gi_sub (by omega) ?_ | refine gi_mul ?_ | refine go_nx rfl ?_)
  refine go_rt rfl ?_
  obtain ⟨g1, g2, g3, g4, g5, g6, g7, g8, g9⟩ := hn
  exact hq h' ed' N' ⟨g1, g2, hFr_t (hFr_set (Or.inl rfl)) g3, g4, g5, g6, g7, g8, g9⟩
theorem sp_size (ha : aL E h a ed N l) (hq : Q (some (.int (nI l.length))) h) : mm_Go E d 54 (mm_blk 54 0) [.ref a] [] h Q := by
  obtain ⟨⟨mc, h1⟩, -⟩ := ha
  repeat (first | refine gi_con ?_ | refine gi_bip (Nat.le_of_ble_eq_true rfl) ?_ | refine gi_sip (Nat.le_of_ble_eq_true rfl) ?_ | refine gi_ldc ?_ | refine gi_add ?_ | refine gi_inc rfl ?_ | refine gi_sub (by omega) ?_ | refine gi_mul ?_ | refine go_nx rfl ?_)
  refine gf_get _ h1 (by decide) rfl ?_
  refine go_rt rfl ?_
  exact hq
theorem sp_get {i : Nat} (hd : 2 ≤ d) (ha : aL E h a ed N l) (hi : i < l.length) (hq : Q (some (.ref (l.getD i 0))) h) : mm_Go E d 55 (mm_blk 55 0) [.ref a, .int (nI i)] [] h Q := by
  have ha0 := ha
  have hll := aL_len ha0
  obtain ⟨⟨mc, h1⟩, harr, hN1⟩ := ha
  rcases harr with ⟨n1, n2, n3⟩ | ⟨n1, n2, f, n3, n4⟩
  · rw [n2] at hi
    simp at hi
  repeat (first | refine gi_con ?_ | refine gi_bip (Nat.le_of_ble_eq_true rfl) ?_ | refine gi_sip (Nat.le_of_ble_eq_true rfl) ?_ | refine gi_ldc ?_ | refine gi_add ?_ | refine gi_inc rfl ?_ | refine gi_sub (by omega) ?_ | refine gi_mul ?_ | refine go_nx rfl ?_)
  refine gf_get _ h1 (by decide) rfl ?_
  repeat (first | refine gi_con ?_ | refine gi_bip (Nat.le_of_ble_eq_true rfl) ?_ | refine gi_sip (Nat.le_of_ble_eq_true rfl) ?_ | refine gi_ldc ?_ | refine gi_add ?_ | refine gi_inc rfl ?_ | refine gi_sub (by omega) ?_ | refine gi_mul ?_ | refine go_nx rfl ?_)
  refine go_step ?_
  refine g_call (k := 56) rfl (by omega) (Nat.le_of_ble_eq_true rfl) rfl ?_
  repeat (first | refine gi_con ?_ | refine gi_bip (Nat.le_of_ble_eq_true rfl) ?_ | refine gi_sip (Nat.le_of_ble_eq_true rfl) ?_ | refine gi_ldc ?_ | refine gi_add ?_ | refine gi_inc rfl ?_ | refine gi_sub (by omega) ?_ | refine gi_mul ?_ | refine go_nx rfl ?_)
  refine go_step ?_
  refine g_call (k := 35) rfl (by omega) (Nat.le_of_ble_eq_true rfl) rfl ?_
  refine sp_pcheck hi (by omega) ?_
  repeat (first | refine gi_con ?_ | refine gi_bip (Nat.le_of_ble_eq_true rfl) ?_ | refine gi_sip (Nat.le_of_ble_eq_true rfl) ?_ | refine gi_ldc ?_ | refine gi_add ?_ | refine gi_inc rfl ?_ | refine gi_sub (by omega) ?_ | refine gi_mul ?_ | refine go_nx rfl ?_)
  refine go_rt rfl ?_
  repeat (first | refine gi_con ?_ | refine gi_bip (Nat.le_of_ble_eq_true rfl) ?_ | refine gi_sip (Nat.le_of_ble_eq_true rfl) ?_ | refine gi_ldc ?_ | refine gi_add ?_ | refine gi_inc rfl ?_ | refine gi_sub (by omega) ?_ | refine gi_mul ?_ | refine go_nx rfl ?_)
  refine go_step ?_
  refine g_callV (by decide) (by decide) (Nat.le_of_ble_eq_true rfl) (Nat.le_of_ble_eq_true rfl) (aL_rcv ha0) (by omega) (Nat.le_of_ble_eq_true rfl) rfl ?_
  repeat (first | refine gi_con ?_ | refine gi_bip (Nat.le_of_ble_eq_true rfl) ?_ | refine gi_sip (Nat.le_of_ble_eq_true rfl) ?_ | refine gi_ldc ?_ | refine gi_add ?_ | refine gi_inc rfl ?_ | refine gi_sub (by omega) ?_ | refine gi_mul ?_ | refine go_nx rfl ?_)
  refine gf_get _ h1 (by decide) rfl ?_
  repeat (first | refine gi_con ?_ | refine gi_bip (Nat.le_of_ble_eq_true rfl) ?_ | refine gi_sip (Nat.le_of_ble_eq_true rfl) ?_ | refine gi_ldc ?_ | refine gi_add ?_ | refine gi_inc rfl ?_ | refine gi_sub (by omega) ?_ | refine gi_mul ?_ | refine go_nx rfl ?_)
  refine gc_aald n3 (by omega) (by omega) ?_
  rw [n4 i hi]
  refine go_rt rfl ?_
  repeat (first | refine gi_con ?_ | refine gi_bip (Nat.le_of_ble_eq_true rfl) ?_ | refine gi_sip (Nat.le_of_ble_eq_true rfl) ?_ | refine gi_ldc ?_ | refine gi_add ?_ | refine gi_inc rfl ?_ | refine gi_sub (by omega) ?_ | refine gi_mul ?_ | refine go_nx rfl ?_)
  refine go_rt rfl ?_
  exact hq
theorem sp_linit {fs : List Value} (hd : 2 ≤ d) (hE : sE E) (hk : hOk E h) (ha : h.2.2 a = some (.inr (3, [.null, .int 0, .int 0]))) (hq : ∀ ed, E.2.1 0 = .ref ed → aL E (mm_set h a (.inr (3, [.ref ed, .int 0, .int 0]))) a ed 0 [] → Q none (mm_set h a (.inr (3, [.ref ed, .int 0, .int 0])))) : mm_Go E d 22 (mm_blk 22 0) [.ref a] [] h Q := by
  obtain ⟨⟨t, f, e1, e2, e3⟩, -⟩ := hE
  repeat (first | refine gi_con ?_ | refine gi_bip (Nat.le_of_ble_eq_true rfl) ?_ | refine gi_sip (Nat.le_of_ble_eq_true rfl) ?_ | refine gi_ldc ?_ | refine gi_add ?_ | refine gi_inc rfl ?_ | refine gi_sub (by omega) ?_ | refine gi_mul ?_ | refine go_nx rfl ?_)
  refine go_step ?_
  refine g_call (k := 23) rfl (by omega) (Nat.le_of_ble_eq_true rfl) rfl ?_
  repeat (first | refine gi_con ?_ | refine gi_bip (Nat.le_of_ble_eq_true rfl) ?_ | refine gi_sip (Nat.le_of_ble_eq_true rfl) ?_ | refine gi_ldc ?_ | refine gi_add ?_ | refine gi_inc rfl ?_ | refine gi_sub (by omega) ?_ | refine gi_mul ?_ | refine go_nx rfl ?_)
  refine go_step ?_
  refine g_call (k := 24) rfl (by omega) (Nat.le_of_ble_eq_true rfl) rfl ?_
  repeat (first | refine gi_con ?_ | refine gi_bip (Nat.le_of_ble_eq_true rfl) ?_ | refine gi_sip (Nat.le_of_ble_eq_true rfl) ?_ | refine gi_ldc ?_ | refine gi_add ?_ | refine gi_inc rfl ?_ | refine gi_sub (by omega) ?_ | refine gi_mul ?_ | refine go_nx rfl ?_)
  refine go_rt rfl ?_
  repeat (first | refine gi_con ?_ | refine gi_bip (Nat.le_of_ble_eq_true rfl) ?_ | refine gi_sip (Nat.le_of_ble_eq_true rfl) ?_ | refine gi_ldc ?_ | refine gi_add ?_ | refine gi_inc rfl ?_ | refine gi_sub (by omega) ?_ | refine gi_mul ?_ | refine go_nx rfl ?_)
  refine gc_put (fs' := [.null, .int 0, .int 0]) ha rfl (Nat.le_of_ble_eq_true rfl) rfl rfl ?_
  refine go_rt rfl ?_
  have ha2 : (mm_set h a (.inr (3, [.null, .int 0, .int 0]))).2.2 a = some (.inr (3, [.null, .int 0, .int 0])) := hs_at
  repeat (first | refine gi_con ?_ | refine gi_bip (Nat.le_of_ble_eq_true rfl) ?_ | refine gi_sip (Nat.le_of_ble_eq_true rfl) ?_ | refine gi_ldc ?_ | refine gi_add ?_ | refine gi_inc rfl ?_ | refine gi_sub (by omega) ?_ | refine gi_mul ?_ | refine go_nx rfl ?_)
  show mm_Go E d 22 _ _ [E.2.1 0, .ref a] _ Q
  rw [e1]
  refine gc_put (fs' := [.ref t, .int 0, .int 0]) ha2 rfl (Nat.le_of_ble_eq_true rfl) rfl rfl ?_
  rw [hs_set]
  refine go_rt rfl ?_
  exact hq t e1 ⟨⟨0, hs_at⟩, Or.inl ⟨rfl, rfl, e1⟩, by omega⟩
end A
