/-! THE CLASS: filter -/
theorem sb_255 : ∀ c, c < 256 → sb_b c &&& 255 = nI c := by decide +kernel
section GO
variable {E : mmE} {d m pc idx : Nat} {is : List mmI} {L S : List Value} {h : mmH} {Q : Option Value → mmH → Prop} {ex : List Nat} {off : Int}
theorem gc_n2 (h0 : mm_k0 ex = 2) (hg : mm_Go E d m is L (.ref h.1 :: S) (mm_new h 4 (.inr (2, [.null, .null, .int 0, .int 0]))) Q) : mm_Go E d m ((pc, .new idx, ex) :: is) L S h Q := gc_new0 h0 hg
theorem gc_n5 (h0 : mm_k0 ex = 5) (hg : mm_Go E d m is L (.ref h.1 :: S) (mm_new h 1 (.inr (5, [.int 0]))) Q) : mm_Go E d m ((pc, .new idx, ex) :: is) L S h Q := gc_new0 h0 hg
end GO
section C
variable {E : mmE} {d : Nat} {h : mmH} {Q : Option Value → mmH → Prop} {own : Nat → Nat} {ta o pa T : Nat} {t : qB} {pl hl : Value} {f : Nat → Int32}
theorem sp_take {k : Nat} (hd : 4 ≤ d) (hk : hOk E h) (hc : cTp h o ta pa T pl hl f) (hkT : k ≤ 2000) (hq : ∀ gg, (∀ j, j < k → gg j = f j) → Q (some (.ref h.1)) (mm_new (mm_set h o (.inr (0, [.ref ta, .ref pa, .int (nI 0), pl, hl]))) k (.inl (0, k, .inl gg)))) : mm_Go E d 20 (mm_blk 20 0) [.ref o, .int (nI k)] [] h Q := by
  have hot := cTp_ne hc
  repeat (first | refine gc_n3 rfl ?_ | refine gc_n6 rfl ?_ | refine gc_n7 rfl ?_ | refine gc_n8 rfl ?_ | refine gc_n9 rfl ?_ | refine gi_con ?_ | refine gi_bip (Nat.le_of_ble_eq_true rfl) ?_ | refine gi_sip (Nat.le_of_ble_eq_true rfl) ?_ | refine gi_ldc ?_ | refine gi_add ?_ | refine gi_inc rfl ?_ | refine gi_sub (by omega) ?_ | refine gi_mul ?_ | refine go_nx rfl ?_)
  refine gc_put (fs' := [.ref ta, .ref pa, .int (nI 0), pl, hl]) hc.1 rfl (Nat.le_of_ble_eq_true rfl) rfl rfl ?_
  repeat (first | refine gc_n3 rfl ?_ | refine gc_n6 rfl ?_ | refine gc_n7 rfl ?_ | refine gc_n8 rfl ?_ | refine gc_n9 rfl ?_ | refine gi_con ?_ | refine gi_bip (Nat.le_of_ble_eq_true rfl) ?_ | refine gi_sip (Nat.le_of_ble_eq_true rfl) ?_ | refine gi_ldc ?_ | refine gi_add ?_ | refine gi_inc rfl ?_ | refine gi_sub (by omega) ?_ | refine gi_mul ?_ | refine go_nx rfl ?_)
  refine gf_get _ hs_at (by decide) rfl ?_
  repeat (first | refine gc_n3 rfl ?_ | refine gc_n6 rfl ?_ | refine gc_n7 rfl ?_ | refine gc_n8 rfl ?_ | refine gc_n9 rfl ?_ | refine gi_con ?_ | refine gi_bip (Nat.le_of_ble_eq_true rfl) ?_ | refine gi_sip (Nat.le_of_ble_eq_true rfl) ?_ | refine gi_ldc ?_ | refine gi_add ?_ | refine gi_inc rfl ?_ | refine gi_sub (by omega) ?_ | refine gi_mul ?_ | refine go_nx rfl ?_)
  refine go_step ?_
  refine g_call (k := 4) rfl (by omega) (Nat.le_of_ble_eq_true rfl) rfl ?_
  refine sp_copyRange (fr := 0) (to := k) (by omega) (hOk_set2 hk hc.1) (show (mm_set h o _).2.2 ta = _ by rw [hs_ne (Ne.symm hot)]; exact hc.2) (Nat.zero_le _) hkT (fun gg hgg => ?_)
  rw [Nat.sub_zero] at hgg ⊢
  refine go_rt rfl ?_
  exact hq gg (fun j hj => by rw [hgg j hj, Nat.zero_add])
theorem row_of {a k : Nat} {gg : Nat → Int32} (hk : k ≤ 2000) (ha : h.2.2 a = some (.inl (0, k, .inl gg))) (hg : ∀ j, j < k → gg j = sb_b (t.2 j) ∧ t.2 j < 256) : bRow h a k (q_sub t.2 0 k) := by
  refine ⟨hk, ⟨gg, ha, fun j hj => ?_⟩, fun j => ?_, fun j hj => ?_⟩
  · unfold q_sub
    rw [if_pos hj, Nat.zero_add, (hg j hj).1]
    exact sb_255 _ (hg j hj).2
  · unfold q_sub
    split
    · rename_i hj
      rw [Nat.zero_add]
      exact (hg j hj).2
    · decide
  · unfold q_sub
    rw [if_neg (by omega)]
theorem sp_chinit {a : Nat} (ha : h.2.2 a = some (.inr (5, [.int 0]))) (hq : Q none (cH h a 0)) : mm_Go E d 58 (mm_blk 58 0) [.ref a] [] h Q := by
  repeat (first | refine gc_n3 rfl ?_ | refine gc_n6 rfl ?_ | refine gc_n7 rfl ?_ | refine gc_n8 rfl ?_ | refine gc_n9 rfl ?_ | refine gi_con ?_ | refine gi_bip (Nat.le_of_ble_eq_true rfl) ?_ | refine gi_sip (Nat.le_of_ble_eq_true rfl) ?_ | refine gi_ldc ?_ | refine gi_add ?_ | refine gi_inc rfl ?_ | refine gi_sub (by omega) ?_ | refine gi_mul ?_ | refine go_nx rfl ?_)
  refine gc_put (fs' := [.int (nI 0)]) ha rfl (Nat.le_of_ble_eq_true rfl) rfl rfl ?_
  refine go_rt rfl ?_
  exact hq
theorem sp_finit (hd : 3 ≤ d) (hE : sE E) (hw : wOk E h own) (hq : ∀ h', h'.2.2 h.1 = some (.inr (9, [.ref (h.1 + 1), .ref (h.1 + 2)])) → gL E h' own (h.1 + 1) 0 [] → gL E h' own (h.1 + 2) 0 [] → wOk E h' own → lFr h h' own own (fun _ => False) → h'.1 = h.1 + 3 → h'.2.1 = h.2.1 + 8 → Q none h') : mm_Go E d 76 (mm_blk 76 0) [.ref h.1] [] (mm_new h 2 (.inr (9, [.null, .null]))) Q := by
  have w1 := wOk_new (n := 2) (c := .inr (9, [.null, .null])) hw
  have c1 : (mm_new h 2 (.inr (9, [.null, .null]))).2.2 h.1 = some (.inr (9, [.null, .null])) := hn_at
  have f1 : lFr h (mm_new h 2 (.inr (9, [.null, .null]))) own own (fun _ => False) := lFr_new
  have s1 : (mm_new h 2 (.inr (9, [.null, .null]))).1 = h.1 + 1 := rfl
  have t1 : (mm_new h 2 (.inr (9, [.null, .null]))).2.1 = h.2.1 + 2 := rfl
  generalize mm_new h 2 (.inr (9, [.null, .null])) = h1 at w1 c1 f1 s1 t1 ⊢
  refine go_nx rfl ?_
  refine go_nx rfl ?_
  refine go_nx rfl ?_
  refine gc_n3 rfl ?_
  repeat (first | refine gc_n3 rfl ?_ | refine gc_n6 rfl ?_ | refine gc_n7 rfl ?_ | refine gc_n8 rfl ?_ | refine gc_n9 rfl ?_ | refine gi_con ?_ | refine gi_bip (Nat.le_of_ble_eq_true rfl) ?_ | refine gi_sip (Nat.le_of_ble_eq_true rfl) ?_ | refine gi_ldc ?_ | refine gi_add ?_ | refine gi_inc rfl ?_ | refine gi_sub (by omega) ?_ | refine gi_mul ?_ | refine go_nx rfl ?_)
  refine go_step ?_
  refine g_call (k := 22) rfl (by omega) (Nat.le_of_ble_eq_true rfl) rfl ?_
  refine sp_lnew (by omega) hE w1 (fun h2 k1 k2 k3 k4 k5 => ?_)
  have c2 := lFr_obj k3 w1.1 c1 (by decide)
  rw [c1] at c2
  refine gc_put (fs' := [.ref h1.1, .null]) c2 rfl (Nat.le_of_ble_eq_true rfl) rfl rfl ?_
  have set9 : ∀ {H : mmH} {a cap : Nat} {l : List Nat} {fs fs' : List Value}, H.2.2 h.1 = some (.inr (9, fs)) → gL E H own a cap l → gL E (mm_set H h.1 (.inr (9, fs'))) own a cap l := by
    intro H a cap l fs fs' hc ha
    obtain ⟨ed, ⟨⟨mc, hm⟩, harr, hN⟩, ho⟩ := ha
    refine ⟨ed, ⟨⟨mc, by rw [hs_ne (fun q => by rw [q, hc] at hm; cases hm)]; exact hm⟩, ?_, hN⟩, ho⟩
    rcases harr with q | ⟨n1, n2, f, n3, n4⟩
    · exact Or.inl q
    · exact Or.inr ⟨n1, n2, f, by rw [hs_ne (fun q => by rw [q, hc] at n3; cases n3)]; exact n3, n4⟩
  have k1' := set9 (fs' := [.ref h1.1, .null]) c2 k1
  have w2 : wOk E (mm_set h2 h.1 (.inr (9, [.ref h1.1, .null]))) own := ⟨hOk_set2 k2.1 c2, k2.2⟩
  have f2 : lFr h (mm_set h2 h.1 (.inr (9, [.ref h1.1, .null]))) own own (fun _ => False) := lFr_8 (lFr_t f1 k3) (Nat.le_refl _)
  have c3 : (mm_set h2 h.1 (.inr (9, [.ref h1.1, .null]))).2.2 h.1 = some (.inr (9, [.ref h1.1, .null])) := hs_at
  have s2 : (mm_set h2 h.1 (.inr (9, [.ref h1.1, .null]))).1 = h.1 + 2 := by show h2.1 = _; omega
  have t2 : (mm_set h2 h.1 (.inr (9, [.ref h1.1, .null]))).2.1 = h.2.1 + 5 := by show h2.2.1 = _; omega
  generalize mm_set h2 h.1 (.inr (9, [.ref h1.1, .null])) = h3 at k1' w2 f2 c3 s2 t2 ⊢
  refine go_nx rfl ?_
  refine gc_n3 rfl ?_
  repeat (first | refine gc_n3 rfl ?_ | refine gc_n6 rfl ?_ | refine gc_n7 rfl ?_ | refine gc_n8 rfl ?_ | refine gc_n9 rfl ?_ | refine gi_con ?_ | refine gi_bip (Nat.le_of_ble_eq_true rfl) ?_ | refine gi_sip (Nat.le_of_ble_eq_true rfl) ?_ | refine gi_ldc ?_ | refine gi_add ?_ | refine gi_inc rfl ?_ | refine gi_sub (by omega) ?_ | refine gi_mul ?_ | refine go_nx rfl ?_)
  refine go_step ?_
  refine g_call (k := 22) rfl (by omega) (Nat.le_of_ble_eq_true rfl) rfl ?_
  refine sp_lnew (by omega) hE w2 (fun h4 m1 m2 m3 m4 m5 => ?_)
  have c4 := lFr_obj m3 w2.1 c3 (by decide)
  rw [c3] at c4
  refine gc_put (fs' := [.ref h1.1, .ref h3.1]) c4 rfl (Nat.le_of_ble_eq_true rfl) rfl rfl ?_
  refine go_rt rfl ?_
  rw [s1] at k1' ⊢
  rw [s2] at m1 ⊢
  refine hq _ hs_at (set9 c4 (gL_fr m3 w2.1 k1' id)) (set9 c4 m1) ⟨hOk_set2 m2.1 c4, m2.2⟩ (lFr_8 (lFr_t f2 m3) (Nat.le_refl _)) ?_ ?_
  · show h4.1 = _
    omega
  · show h4.2.1 = _
    omega
end C
