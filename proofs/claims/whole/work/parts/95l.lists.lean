/-! THE CLASS: lists with their owners -/
section GO
variable {E : mmE} {d m pc idx : Nat} {is : List mmI} {L S : List Value} {h : mmH} {Q : Option Value → mmH → Prop} {ex : List Nat} {off : Int}
theorem gc_new0 {ci : Nat} (h0 : mm_k0 ex = ci) (hg : mm_Go E d m is L (.ref h.1 :: S) (mm_new h (mm_defs ci).length (.inr (ci, mm_defs ci))) Q) : mm_Go E d m ((pc, .new idx, ex) :: is) L S h Q := by
  subst h0
  exact go_nx rfl hg
theorem gc_n3 (h0 : mm_k0 ex = 3) (hg : mm_Go E d m is L (.ref h.1 :: S) (mm_new h 3 (.inr (3, [.null, .int 0, .int 0]))) Q) : mm_Go E d m ((pc, .new idx, ex) :: is) L S h Q := gc_new0 h0 hg
theorem gc_n6 (h0 : mm_k0 ex = 6) (hg : mm_Go E d m is L (.ref h.1 :: S) (mm_new h 5 (.inr (6, [.int 0, .null, .int 0, .int 0, .int 0]))) Q) : mm_Go E d m ((pc, .new idx, ex) :: is) L S h Q := gc_new0 h0 hg
theorem gc_n7 (h0 : mm_k0 ex = 7) (hg : mm_Go E d m is L (.ref h.1 :: S) (mm_new h 2 (.inr (7, [.null, .null]))) Q) : mm_Go E d m ((pc, .new idx, ex) :: is) L S h Q := gc_new0 h0 hg
theorem gc_n8 (h0 : mm_k0 ex = 8) (hg : mm_Go E d m is L (.ref h.1 :: S) (mm_new h 4 (.inr (8, [.null, .null, .null, .int 0]))) Q) : mm_Go E d m ((pc, .new idx, ex) :: is) L S h Q := gc_new0 h0 hg
theorem gc_n9 (h0 : mm_k0 ex = 9) (hg : mm_Go E d m is L (.ref h.1 :: S) (mm_new h 2 (.inr (9, [.null, .null]))) Q) : mm_Go E d m ((pc, .new idx, ex) :: is) L S h Q := gc_new0 h0 hg
theorem gc_acn {a b : Nat} (h1 : a ≠ b → mm_Go E d m (mm_blk m (mm_k0 ex)) L S h Q) (h2 : a = b → mm_Go E d m is L S h Q) : mm_Go E d m ((pc, .if_acmp .ne off, ex) :: is) L (.ref b :: .ref a :: S) h Q := go_br (c := decide (¬ some a = some b)) rfl (fun c => h1 (fun q => of_decide_eq_true c (by rw [q]))) (fun c => h2 (Option.some.inj (Decidable.not_not.mp (of_decide_eq_false c))))
end GO
theorem aGr5 {N : Nat} (hN : N = 0 ∨ 10 ≤ N) : N + 5 ≤ aGr N := by
  unfold aGr
  split <;> omega
section A
variable {E : mmE} {d : Nat} {h : mmH} {Q : Option Value → mmH → Prop} {a ed N : Nat} {l : List Nat}
theorem sp_add41y {x ci : Nat} {fs : List Value} (hd : 5 ≤ d) (hE : sE E) (hk : hOk E h) (ha : aL E h a ed N l) (hx : h.2.2 x = some (.inr (ci, fs))) (hci : ci ≠ 3) (hN : N ≤ 40000)
    (hq : ∀ h' ed' N', aNx E h h' a ed N (l ++ [x]) ed' N' → 5 * h'.1 + N ≤ 5 * h.1 + N' → Q none h') : mm_Go E d 41 (mm_blk 41 0) [.ref a, .ref x, .ref ed, .int (nI l.length)] [] h Q := by
  have ha0 := ha
  obtain ⟨⟨mc, h1⟩, harr, hN1⟩ := ha
  have hal := aL_alen hE hk ha0
  have hll := aL_len ha0
  have hlt := hOk_lt hk h1
  have hxa : x ≠ a := fun q => by rw [q, h1] at hx; cases hx; exact hci rfl
  have hxl := hOk_lt hk hx
  have hl' : (l ++ [x]).length = l.length + 1 := by rw [List.length_append]; rfl
  have hget : ∀ (f : Nat → Option Nat), (∀ k, k < l.length → f k = some (l.getD k 0)) → ∀ k, k < (l ++ [x]).length → uf f l.length (some x) k = some ((l ++ [x]).getD k 0) := by
    intro f hf k hk'
    by_cases hkl : k = l.length
    · rw [hkl, uf_at, List.getD_eq_getElem?_getD, List.getElem?_append_right (Nat.le_refl _), Nat.sub_self]
      rfl
    · rw [uf_ne hkl, hf k (by omega), List.getD_eq_getElem?_getD, List.getD_eq_getElem?_getD, List.getElem?_append_left (by omega)]
  repeat (first | refine gi_con ?_ | refine gi_bip (Nat.le_of_ble_eq_true rfl) ?_ | refine gi_sip (Nat.le_of_ble_eq_true rfl) ?_ | refine gi_ldc ?_ | refine gi_add ?_ | refine gi_inc rfl ?_ | refine gi_sub (by omega) ?_ | refine gi_mul ?_ | refine go_nx rfl ?_)
  refine go_step (g_alen hal ?_)
  rw [show Int32.ofNat N = nI N from rfl]
  first | refine gb_lt (by omega) (by omega) (fun c => ?_) (fun c => ?_) | refine gb_ge (by omega) (by omega) (fun c => ?_) (fun c => ?_) | refine gb_gt (by omega) (by omega) (fun c => ?_) (fun c => ?_) | refine gb_le (by omega) (by omega) (fun c => ?_) (fun c => ?_) | refine gb_eq (by omega) (by omega) (fun c => ?_) (fun c => ?_) | refine gb_ne (by omega) (by omega) (fun c => ?_) (fun c => ?_)
  · rcases harr with ⟨n1, n2, n3⟩ | ⟨n1, n2, f, n3, n4⟩
    · rw [n2] at c
      exact absurd n1.symm c
    have hea : ed ≠ a := fun q => by rw [q, h1] at n3; cases n3
    repeat (first | refine gi_con ?_ | refine gi_bip (Nat.le_of_ble_eq_true rfl) ?_ | refine gi_sip (Nat.le_of_ble_eq_true rfl) ?_ | refine gi_ldc ?_ | refine gi_add ?_ | refine gi_inc rfl ?_ | refine gi_sub (by omega) ?_ | refine gi_mul ?_ | refine go_nx rfl ?_)
    refine gc_aastR n3 (show l.length < N by omega) (by omega) (o_may hx (Or.inl ⟨rfl, hci⟩)) ?_
    have h1s : (mm_set h ed (aCell 3 N (uf f l.length (some x)))).2.2 a = some (.inr (3, [.ref ed, .int (nI l.length), .int mc])) := by rw [hs_ne (Ne.symm hea)]; exact h1
    repeat (first | refine gi_con ?_ | refine gi_bip (Nat.le_of_ble_eq_true rfl) ?_ | refine gi_sip (Nat.le_of_ble_eq_true rfl) ?_ | refine gi_ldc ?_ | refine gi_add ?_ | refine gi_inc rfl ?_ | refine gi_sub (by omega) ?_ | refine gi_mul ?_ | refine go_nx rfl ?_)
    refine gc_put (fs' := [.ref ed, .int (nI (l.length + 1)), .int mc]) h1s rfl (Nat.le_of_ble_eq_true rfl) rfl rfl ?_
    refine go_rt rfl ?_
    refine hq _ ed N ⟨⟨⟨mc, by rw [hl']; exact hs_at⟩, Or.inr ⟨n1, by omega, _, by rw [hs_ne hea]; exact hs_at, hget f n4⟩, hN1⟩, hOk_set2 (hOk_set2 hk n3) h1s, hFr_set2 (hFr_set (Or.inr rfl)) (Or.inl (Or.inl rfl)), Or.inl rfl, Nat.le_succ _, Nat.le_refl _, Nat.le_refl _, Or.inl rfl, Nat.le_refl _⟩ (Nat.le_refl _)
  · repeat (first | refine gi_con ?_ | refine gi_bip (Nat.le_of_ble_eq_true rfl) ?_ | refine gi_sip (Nat.le_of_ble_eq_true rfl) ?_ | refine gi_ldc ?_ | refine gi_add ?_ | refine gi_inc rfl ?_ | refine gi_sub (by omega) ?_ | refine gi_mul ?_ | refine go_nx rfl ?_)
    refine go_step ?_
    refine g_callV (by decide) (by decide) (Nat.le_of_ble_eq_true rfl) (Nat.le_of_ble_eq_true rfl) (aL_rcv ha0) (by omega) (Nat.le_of_ble_eq_true rfl) rfl ?_
    refine sp_grow (by omega) hE hk ha0 c (by omega) (fun mc2 f e1 e2 => ?_)
    have hgr := aGr_ge (N := N) (by rcases harr with ⟨n1, -⟩ | ⟨n1, -⟩ <;> omega)
    have hgr5 := aGr5 (N := N) (by rcases harr with ⟨n1, -⟩ | ⟨n1, -⟩ <;> omega)
    generalize hN' : aGr N = N' at hgr hgr5
    have ka : (mm_set (mm_new h N' (aCell 3 N' f)) a (.inr (3, [.ref h.1, .int (nI l.length), .int mc2]))).2.2 h.1 = some (aCell 3 N' f) := by rw [hs_ne (by omega)]; exact hn_at
    have kx : (mm_set (mm_new h N' (aCell 3 N' f)) a (.inr (3, [.ref h.1, .int (nI l.length), .int mc2]))).2.2 x = some (.inr (ci, fs)) := by rw [hs_ne hxa, hn_ne (by omega)]; exact hx
    have kan : (mm_new h N' (aCell 3 N' f)).2.2 a = some (.inr (3, [.ref ed, .int (nI l.length), .int mc])) := by rw [hn_ne (by omega)]; exact h1
    repeat (first | refine gi_con ?_ | refine gi_bip (Nat.le_of_ble_eq_true rfl) ?_ | refine gi_sip (Nat.le_of_ble_eq_true rfl) ?_ | refine gi_ldc ?_ | refine gi_add ?_ | refine gi_inc rfl ?_ | refine gi_sub (by omega) ?_ | refine gi_mul ?_ | refine go_nx rfl ?_)
    refine go_jp rfl ?_
    repeat (first | refine gi_con ?_ | refine gi_bip (Nat.le_of_ble_eq_true rfl) ?_ | refine gi_sip (Nat.le_of_ble_eq_true rfl) ?_ | refine gi_ldc ?_ | refine gi_add ?_ | refine gi_inc rfl ?_ | refine gi_sub (by omega) ?_ | refine gi_mul ?_ | refine go_nx rfl ?_)
    refine gc_aastR ka (show l.length < N' by omega) (by have := hgr.2.2.2; omega) (o_may kx (Or.inl ⟨rfl, hci⟩)) ?_
    have h1s : (mm_set (mm_set (mm_new h N' (aCell 3 N' f)) a (.inr (3, [.ref h.1, .int (nI l.length), .int mc2]))) h.1 (aCell 3 N' (uf f l.length (some x)))).2.2 a = some (.inr (3, [.ref h.1, .int (nI l.length), .int mc2])) := by rw [hs_ne (by omega)]; exact hs_at
    repeat (first | refine gi_con ?_ | refine gi_bip (Nat.le_of_ble_eq_true rfl) ?_ | refine gi_sip (Nat.le_of_ble_eq_true rfl) ?_ | refine gi_ldc ?_ | refine gi_add ?_ | refine gi_inc rfl ?_ | refine gi_sub (by omega) ?_ | refine gi_mul ?_ | refine go_nx rfl ?_)
    refine gc_put (fs' := [.ref h.1, .int (nI (l.length + 1)), .int mc2]) h1s rfl (Nat.le_of_ble_eq_true rfl) rfl rfl ?_
    refine go_rt rfl ?_
    refine hq _ h.1 N' ⟨⟨⟨mc2, by rw [hl']; exact hs_at⟩, Or.inr ⟨hgr.1, by omega, _, by rw [hs_ne (by omega)]; exact hs_at, hget f e2⟩, by have := hgr.2.2.2; omega⟩, hOk_set2 (hOk_set2 (hOk_set2 (hOk_new hk) kan) ka) h1s, hFr_set2 (hFr_set2 (hFr_set2 hFr_new (Or.inl (Or.inl rfl))) (Or.inr (Nat.le_refl _))) (Or.inl (Or.inl rfl)), Or.inr (Nat.le_refl _), Nat.le_refl _, ?_, by omega, Or.inr (by omega), Nat.le_add_right _ _⟩ ?_
    · show h.2.1 + N' + 4 * N ≤ h.2.1 + 4 * N'
      omega
    · show 5 * (h.1 + 1) + N ≤ 5 * h.1 + N'
      omega
theorem sp_addy {x ci : Nat} {fs : List Value} (hd : 6 ≤ d) (hE : sE E) (hk : hOk E h) (ha : aL E h a ed N l) (hx : h.2.2 x = some (.inr (ci, fs))) (hci : ci ≠ 3) (hN : N ≤ 40000)
    (hq : ∀ h' ed' N', aNx E h h' a ed N (l ++ [x]) ed' N' → 5 * h'.1 + N ≤ 5 * h.1 + N' → Q (some (.int (nI 1))) h') : mm_Go E d 40 (mm_blk 40 0) [.ref a, .ref x] [] h Q := by
  have ha0 := ha
  obtain ⟨⟨mc, h1⟩, harr, hN1⟩ := ha
  have hxa : x ≠ a := fun q => by rw [q, h1] at hx; cases hx; exact hci rfl
  repeat (first | refine gi_con ?_ | refine gi_bip (Nat.le_of_ble_eq_true rfl) ?_ | refine gi_sip (Nat.le_of_ble_eq_true rfl) ?_ | refine gi_ldc ?_ | refine gi_add ?_ | refine gi_inc rfl ?_ | refine gi_sub (by omega) ?_ | refine gi_mul ?_ | refine go_nx rfl ?_)
  refine gf_get _ h1 (by decide) rfl ?_
  repeat (first | refine gi_con ?_ | refine gi_bip (Nat.le_of_ble_eq_true rfl) ?_ | refine gi_sip (Nat.le_of_ble_eq_true rfl) ?_ | refine gi_ldc ?_ | refine gi_add ?_ | refine gi_inc rfl ?_ | refine gi_sub (by omega) ?_ | refine gi_mul ?_ | refine go_nx rfl ?_)
  refine gc_put (fs' := [.ref ed, .int (nI l.length), .int (mc + nI 1)]) h1 rfl (Nat.le_of_ble_eq_true rfl) rfl rfl ?_
  have h1s : (mm_set h a (.inr (3, [.ref ed, .int (nI l.length), .int (mc + nI 1)]))).2.2 a = some (.inr (3, [.ref ed, .int (nI l.length), .int (mc + nI 1)])) := hs_at
  have has : aL E (mm_set h a (.inr (3, [.ref ed, .int (nI l.length), .int (mc + nI 1)]))) a ed N l := by
    refine ⟨⟨_, h1s⟩, ?_, hN1⟩
    rcases harr with n | ⟨n1, n2, f, n3, n4⟩
    · exact Or.inl n
    · exact Or.inr ⟨n1, n2, f, by rw [hs_ne (fun q => by rw [q, h1] at n3; cases n3)]; exact n3, n4⟩
  have hks := hOk_set2 (c' := .inr (3, [.ref ed, .int (nI l.length), .int (mc + nI 1)])) hk h1
  repeat (first | refine gi_con ?_ | refine gi_bip (Nat.le_of_ble_eq_true rfl) ?_ | refine gi_sip (Nat.le_of_ble_eq_true rfl) ?_ | refine gi_ldc ?_ | refine gi_add ?_ | refine gi_inc rfl ?_ | refine gi_sub (by omega) ?_ | refine gi_mul ?_ | refine go_nx rfl ?_)
  refine gf_get _ h1s (by decide) rfl ?_
  repeat (first | refine gi_con ?_ | refine gi_bip (Nat.le_of_ble_eq_true rfl) ?_ | refine gi_sip (Nat.le_of_ble_eq_true rfl) ?_ | refine gi_ldc ?_ | refine gi_add ?_ | refine gi_inc rfl ?_ | refine gi_sub (by omega) ?_ | refine gi_mul ?_ | refine go_nx rfl ?_)
  refine gf_get _ h1s (by decide) rfl ?_
  repeat (first | refine gi_con ?_ | refine gi_bip (Nat.le_of_ble_eq_true rfl) ?_ | refine gi_sip (Nat.le_of_ble_eq_true rfl) ?_ | refine gi_ldc ?_ | refine gi_add ?_ | refine gi_inc rfl ?_ | refine gi_sub (by omega) ?_ | refine gi_mul ?_ | refine go_nx rfl ?_)
  refine go_step ?_
  refine g_callV (by decide) (by decide) (Nat.le_of_ble_eq_true rfl) (Nat.le_of_ble_eq_true rfl) (aL_rcv has) (by omega) (Nat.le_of_ble_eq_true rfl) rfl ?_
  refine sp_add41y (by omega) hE hks has (by rw [hs_ne hxa]; exact hx) hci hN (fun h' ed' N' hn hn5 => ?_)
  repeat (first | refine gi_con ?_ | refine gi_bip (Nat.le_of_ble_eq_true rfl) ?_ | refine gi_sip (Nat.le_of_ble_eq_true rfl) ?_ | refine gi_ldc ?_ | refine gi_add ?_ | refine gi_inc rfl ?_ | refine gi_sub (by omega) ?_ | refine gi_mul ?_ | refine go_nx rfl ?_)
  refine go_rt rfl ?_
  obtain ⟨g1, g2, g3, g4, g5, g6, g7, g8, g9⟩ := hn
  exact hq h' ed' N' ⟨g1, g2, hFr_t (hFr_set (Or.inl rfl)) g3, g4, g5, g6, g7, g8, g9⟩ hn5
theorem sp_clear (hk : hOk E h) (ha : aL E h a ed N l) (hq : ∀ h', aL E h' a ed N [] → hOk E h' → hFr h h' (fun b => b = a ∨ b = ed) → h'.1 = h.1 → h'.2.1 = h.2.1 → Q none h') : mm_Go E d 88 (mm_blk 88 0) [.ref a, mm_un, mm_un, mm_un] [] h Q := by
  have ha0 := ha
  have hll := aL_len ha0
  obtain ⟨⟨mc, h1⟩, harr, hN1⟩ := ha
  have loop : ∀ (m i : Nat) (H : mmH) (f : Nat → Option Nat) (mc : Int32), m + i = l.length → 10 ≤ N → H.2.2 ed = some (aCell 3 N f) → H.2.2 a = some (.inr (3, [.ref ed, .int (nI 0), .int mc])) → hOk E H → hFr h H (fun b => b = a ∨ b = ed) → H.1 = h.1 → H.2.1 = h.2.1 → mm_Go E d 88 (mm_blk 88 1) [.ref a, .ref ed, .int (nI l.length), .int (nI i)] [] H Q := by
    intro m
    induction m with
    | zero =>
      intro i H f mc hm hN g1 g2 g3 g4 g5 g6
      repeat (first | refine gi_con ?_ | refine gi_bip (Nat.le_of_ble_eq_true rfl) ?_ | refine gi_sip (Nat.le_of_ble_eq_true rfl) ?_ | refine gi_ldc ?_ | refine gi_add ?_ | refine gi_inc rfl ?_ | refine gi_sub (by omega) ?_ | refine gi_mul ?_ | refine go_nx rfl ?_)
      first | refine gb_lt (by omega) (by omega) (fun c => ?_) (fun c => ?_) | refine gb_ge (by omega) (by omega) (fun c => ?_) (fun c => ?_) | refine gb_gt (by omega) (by omega) (fun c => ?_) (fun c => ?_) | refine gb_le (by omega) (by omega) (fun c => ?_) (fun c => ?_) | refine gb_eq (by omega) (by omega) (fun c => ?_) (fun c => ?_) | refine gb_ne (by omega) (by omega) (fun c => ?_) (fun c => ?_)
      rotate_left
      · omega
      refine go_rt rfl ?_
      exact hq H ⟨⟨mc, g2⟩, Or.inr ⟨hN, Nat.zero_le _, f, g1, fun k hk' => absurd hk' (Nat.not_lt_zero _)⟩, hN1⟩ g3 g4 g5 g6
    | succ m ih =>
      intro i H f mc hm hN g1 g2 g3 g4 g5 g6
      have hea : ed ≠ a := fun q => by rw [q, g2] at g1; cases g1
      repeat (first | refine gi_con ?_ | refine gi_bip (Nat.le_of_ble_eq_true rfl) ?_ | refine gi_sip (Nat.le_of_ble_eq_true rfl) ?_ | refine gi_ldc ?_ | refine gi_add ?_ | refine gi_inc rfl ?_ | refine gi_sub (by omega) ?_ | refine gi_mul ?_ | refine go_nx rfl ?_)
      first | refine gb_lt (by omega) (by omega) (fun c => ?_) (fun c => ?_) | refine gb_ge (by omega) (by omega) (fun c => ?_) (fun c => ?_) | refine gb_gt (by omega) (by omega) (fun c => ?_) (fun c => ?_) | refine gb_le (by omega) (by omega) (fun c => ?_) (fun c => ?_) | refine gb_eq (by omega) (by omega) (fun c => ?_) (fun c => ?_) | refine gb_ne (by omega) (by omega) (fun c => ?_) (fun c => ?_)
      · omega
      repeat (first | refine gi_con ?_ | refine gi_bip (Nat.le_of_ble_eq_true rfl) ?_ | refine gi_sip (Nat.le_of_ble_eq_true rfl) ?_ | refine gi_ldc ?_ | refine gi_add ?_ | refine gi_inc rfl ?_ | refine gi_sub (by omega) ?_ | refine gi_mul ?_ | refine go_nx rfl ?_)
      refine gc_aastN g1 (show i < N by omega) (by omega) ?_
      repeat (first | refine gi_con ?_ | refine gi_bip (Nat.le_of_ble_eq_true rfl) ?_ | refine gi_sip (Nat.le_of_ble_eq_true rfl) ?_ | refine gi_ldc ?_ | refine gi_add ?_ | refine gi_inc rfl ?_ | refine gi_sub (by omega) ?_ | refine gi_mul ?_ | refine go_nx rfl ?_)
      refine go_jp rfl ?_
      exact ih (i + 1) _ _ mc (by omega) hN hs_at (by rw [hs_ne (Ne.symm hea)]; exact g2) (hOk_set2 g3 g1) (hFr_set2 g4 (Or.inl (Or.inr rfl))) g5 g6
  repeat (first | refine gi_con ?_ | refine gi_bip (Nat.le_of_ble_eq_true rfl) ?_ | refine gi_sip (Nat.le_of_ble_eq_true rfl) ?_ | refine gi_ldc ?_ | refine gi_add ?_ | refine gi_inc rfl ?_ | refine gi_sub (by omega) ?_ | refine gi_mul ?_ | refine go_nx rfl ?_)
  refine gf_get _ h1 (by decide) rfl ?_
  repeat (first | refine gi_con ?_ | refine gi_bip (Nat.le_of_ble_eq_true rfl) ?_ | refine gi_sip (Nat.le_of_ble_eq_true rfl) ?_ | refine gi_ldc ?_ | refine gi_add ?_ | refine gi_inc rfl ?_ | refine gi_sub (by omega) ?_ | refine gi_mul ?_ | refine go_nx rfl ?_)
  refine gc_put (fs' := [.ref ed, .int (nI l.length), .int (mc + nI 1)]) h1 rfl (Nat.le_of_ble_eq_true rfl) rfl rfl ?_
  have h1s : (mm_set h a (.inr (3, [.ref ed, .int (nI l.length), .int (mc + nI 1)]))).2.2 a = some (.inr (3, [.ref ed, .int (nI l.length), .int (mc + nI 1)])) := hs_at
  repeat (first | refine gi_con ?_ | refine gi_bip (Nat.le_of_ble_eq_true rfl) ?_ | refine gi_sip (Nat.le_of_ble_eq_true rfl) ?_ | refine gi_ldc ?_ | refine gi_add ?_ | refine gi_inc rfl ?_ | refine gi_sub (by omega) ?_ | refine gi_mul ?_ | refine go_nx rfl ?_)
  refine gf_get _ h1s (by decide) rfl ?_
  repeat (first | refine gi_con ?_ | refine gi_bip (Nat.le_of_ble_eq_true rfl) ?_ | refine gi_sip (Nat.le_of_ble_eq_true rfl) ?_ | refine gi_ldc ?_ | refine gi_add ?_ | refine gi_inc rfl ?_ | refine gi_sub (by omega) ?_ | refine gi_mul ?_ | refine go_nx rfl ?_)
  refine gf_get _ h1s (by decide) rfl ?_
  repeat (first | refine gi_con ?_ | refine gi_bip (Nat.le_of_ble_eq_true rfl) ?_ | refine gi_sip (Nat.le_of_ble_eq_true rfl) ?_ | refine gi_ldc ?_ | refine gi_add ?_ | refine gi_inc rfl ?_ | refine gi_sub (by omega) ?_ | refine gi_mul ?_ | refine go_nx rfl ?_)
  refine gc_put (fs' := [.ref ed, .int (nI 0), .int (mc + nI 1)]) h1s rfl (Nat.le_of_ble_eq_true rfl) rfl rfl ?_
  rw [hs_set]
  repeat (first | refine gi_con ?_ | refine gi_bip (Nat.le_of_ble_eq_true rfl) ?_ | refine gi_sip (Nat.le_of_ble_eq_true rfl) ?_ | refine gi_ldc ?_ | refine gi_add ?_ | refine gi_inc rfl ?_ | refine gi_sub (by omega) ?_ | refine gi_mul ?_ | refine go_nx rfl ?_)
  refine go_jp rfl ?_
  have g2 : (mm_set h a (.inr (3, [.ref ed, .int (nI 0), .int (mc + nI 1)]))).2.2 a = some (.inr (3, [.ref ed, .int (nI 0), .int (mc + nI 1)])) := hs_at
  have g3 : hOk E (mm_set h a (.inr (3, [.ref ed, .int (nI 0), .int (mc + nI 1)]))) := hOk_set2 hk h1
  have g4 : hFr h (mm_set h a (.inr (3, [.ref ed, .int (nI 0), .int (mc + nI 1)]))) (fun b => b = a ∨ b = ed) := hFr_set (Or.inl rfl)
  rcases harr with ⟨n1, n2, n3⟩ | ⟨n1, n2, f, n3, n4⟩
  · rw [n2, List.length_nil]
    repeat (first | refine gi_con ?_ | refine gi_bip (Nat.le_of_ble_eq_true rfl) ?_ | refine gi_sip (Nat.le_of_ble_eq_true rfl) ?_ | refine gi_ldc ?_ | refine gi_add ?_ | refine gi_inc rfl ?_ | refine gi_sub (by omega) ?_ | refine gi_mul ?_ | refine go_nx rfl ?_)
    first | refine gb_lt (by omega) (by omega) (fun c => ?_) (fun c => ?_) | refine gb_ge (by omega) (by omega) (fun c => ?_) (fun c => ?_) | refine gb_gt (by omega) (by omega) (fun c => ?_) (fun c => ?_) | refine gb_le (by omega) (by omega) (fun c => ?_) (fun c => ?_) | refine gb_eq (by omega) (by omega) (fun c => ?_) (fun c => ?_) | refine gb_ne (by omega) (by omega) (fun c => ?_) (fun c => ?_)
    rotate_left
    · omega
    refine go_rt rfl ?_
    exact hq _ ⟨⟨_, g2⟩, Or.inl ⟨n1, rfl, n3⟩, hN1⟩ g3 g4 rfl rfl
  · have hea : ed ≠ a := fun q => by rw [q, h1] at n3; cases n3
    exact loop l.length 0 _ f _ (by omega) n1 (by rw [hs_ne hea]; exact n3) g2 g3 g4 rfl rfl
end A
