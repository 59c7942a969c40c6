def bt_at (n : Nat) (f : Nat → Int32) (i : Int32) : Int32 := if i < 0 ∨ Int32.ofNat n ≤ i then 0 else f i.toNatClampNeg &&& 255
theorem sp_at {E : mmE} {d a n : Nat} {h : mmH} {Q : Option Value → mmH → Prop} {f : Nat → Int32} {i : Int32} (ha : h.2.2 a = some (.inl (0, n, .inl f))) (hn : n < 2 ^ 31) (hq : Q (some (.int (bt_at n f i))) h) : mm_Go E d 11 (mm_blk 11 0) [.ref a, .int i] [] h Q := by
  have hal : mm_len E h a = some n := by unfold mm_len; rw [ha]
  have haI : mm_aI E h a = some (0, n, f) := by unfold mm_aI; rw [ha]
  have h1 : (i < 0 ∨ Int32.ofNat n ≤ i) → mm_Go E d 11 (mm_blk 11 1) [.ref a, .int i] [] h Q := by
    intro hc
    repeat refine go_step ?_
    refine gjp ?_
    repeat refine go_step ?_
    refine gjp ?_
    rw [bt_at, if_pos hc] at hq
    exact hq
  repeat refine go_step ?_
  refine gif (fun c1 => h1 (Or.inl c1)) (fun c1 => ?_)
  repeat refine go_step ?_
  refine g_alen hal ?_
  repeat refine go_step ?_
  refine gif (fun c2 => h1 (Or.inr c2)) (fun c2 => ?_)
  repeat refine go_step ?_
  obtain ⟨j, hj, rfl⟩ := (pk_ix i hn).resolve_left c1 |>.resolve_left c2
  refine g_bald haI (Or.inl rfl) (decide_eq_true (vp_in_nI hj hn)) ?_
  repeat refine go_step ?_
  refine gjp ?_
  repeat refine go_step ?_
  refine gjp ?_
  rw [bt_at, if_neg (fun q => q.elim c1 c2)] at hq
  exact hq
