/-! THE CLASS: the order of two nodes of two documents (printed by mk95w.py out of 95b) -/
section C
variable {E : mmE} {h : mmH} {row n row2 n2 : Nat} {B N ord C N2 ord2 : Nat → Nat}
theorem sp_cparts2 {d : Nat} {Q : Option Value → mmH → Prop} {e f l1 l2 lim1 lim2 dep k : Nat} (hd : 3 ≤ d) (hr : bRow h row n B) (hr2 : bRow h row2 n2 C) (hrow : q_row B n) (hrow2 : q_row C n2) (m1 : q_me B n e l1) (m2 : q_me C n2 f l2) (h1 : nEl h row B N ord l1 lim1 e) (h2 : nEl h row2 C N2 ord2 l2 lim2 f) (e1 : B e = 3 ∨ B e = 4) (e2 : C f = 3 ∨ C f = 4)
    (hog : ∀ (x y lx ly : Nat) (Q' : Option Value → mmH → Prop), q_me B n x (l1 - 1) → q_me C n2 y (l2 - 1) → nEl h row B N ord (l1 - 1) lx x → nEl h row2 C N2 ord2 (l2 - 1) ly y → Q' (some (.int (q_ord B C k x y))) h → mm_Go E (d - 1) 71 (mm_blk 71 0) [.ref (N x), .ref (N2 y), .int (nI (dep + 1))] [] h Q')
    (hq : Q (some (.int (q_bxs (q_ord B C k) B C (q_last B (q_val B e)) (q_last C (q_val C f)) 2001 (q_val B e + 4) (q_val C f + 4)))) h) : mm_Go E d 72 (mm_blk 72 0) [.ref (N e), .ref (N2 f), .int (nI dep), mm_un, mm_un, mm_un] [] h Q := by
  have hn := hrow.1
  have hn2 := hrow2.1
  obtain ⟨a1, a2, a3, a4, a5⟩ := q_me_box m1 e1
  obtain ⟨d1, d2, d3, d4, d5⟩ := q_me_box m2 e2
  have hc1 : h.2.2 (N e) = some (.inr (4, [.ref row, .int (nI (B e)), .int (nI e), .int (nI (q_ne B e)), .int (nI (q_word B e)), .int (nI (q_cls (B e))), .int (q_tf B e), .int (q_tt B e), .long (q_nu B e), q_fi B N e, q_nx B N lim1 e, .int (nI (ord e))])) := h1.1
  have hc2 : h.2.2 (N2 f) = some (.inr (4, [.ref row2, .int (nI (C f)), .int (nI f), .int (nI (q_ne C f)), .int (nI (q_word C f)), .int (nI (q_cls (C f))), .int (q_tf C f), .int (q_tt C f), .long (q_nu C f), q_fi C N2 f, q_nx C N2 lim2 f, .int (nI (ord2 f))])) := h2.1
  have b1 := h1.2 e1
  have b2 := h2.2 e2
  rw [show l1 = l1 - 1 + 1 by omega, nBox_s] at b1
  rw [show l2 = l2 - 1 + 1 by omega, nBox_s] at b2
  have five : ∀ (x y : Nat) (x5 : Value), ¬ (x < q_last B (q_val B e) ∧ y < q_last C (q_val C f)) → Q (some (.int (if x < q_last B (q_val B e) then 1 else if y < q_last C (q_val C f) then -1 else 0))) h → mm_Go E d 72 (mm_blk 72 5) [.ref (N e), .ref (N2 f), .int (nI dep), if x < q_last B (q_val B e) then .ref (N x) else .null, if y < q_last C (q_val C f) then .ref (N2 y) else .null, x5] [] h Q := by
    intro x y x5 hxy hq
    by_cases hx : x < q_last B (q_val B e)
    · rw [if_pos hx] at hq ⊢
      repeat (first | refine gc_n3 rfl ?_ | refine gc_n6 rfl ?_ | refine gc_n7 rfl ?_ | refine gc_n8 rfl ?_ | refine gc_n9 rfl ?_ | refine gi_con ?_ | refine gi_bip (Nat.le_of_ble_eq_true rfl) ?_ | refine gi_sip (Nat.le_of_ble_eq_true rfl) ?_ | refine gi_ldc ?_ | refine gi_add ?_ | refine gi_inc rfl ?_ | refine gi_sub (by omega) ?_ | refine gi_mul ?_ | refine go_nx rfl ?_)
      refine gn_nR ?_
      repeat (first | refine gc_n3 rfl ?_ | refine gc_n6 rfl ?_ | refine gc_n7 rfl ?_ | refine gc_n8 rfl ?_ | refine gc_n9 rfl ?_ | refine gi_con ?_ | refine gi_bip (Nat.le_of_ble_eq_true rfl) ?_ | refine gi_sip (Nat.le_of_ble_eq_true rfl) ?_ | refine gi_ldc ?_ | refine gi_add ?_ | refine gi_inc rfl ?_ | refine gi_sub (by omega) ?_ | refine gi_mul ?_ | refine go_nx rfl ?_)
      refine go_jp rfl ?_
      refine go_rt rfl ?_
      exact hq
    · rw [if_neg hx] at hq ⊢
      repeat (first | refine gc_n3 rfl ?_ | refine gc_n6 rfl ?_ | refine gc_n7 rfl ?_ | refine gc_n8 rfl ?_ | refine gc_n9 rfl ?_ | refine gi_con ?_ | refine gi_bip (Nat.le_of_ble_eq_true rfl) ?_ | refine gi_sip (Nat.le_of_ble_eq_true rfl) ?_ | refine gi_ldc ?_ | refine gi_add ?_ | refine gi_inc rfl ?_ | refine gi_sub (by omega) ?_ | refine gi_mul ?_ | refine go_nx rfl ?_)
      refine gn_nN ?_
      by_cases hy : y < q_last C (q_val C f)
      · rw [if_pos hy] at hq ⊢
        repeat (first | refine gc_n3 rfl ?_ | refine gc_n6 rfl ?_ | refine gc_n7 rfl ?_ | refine gc_n8 rfl ?_ | refine gc_n9 rfl ?_ | refine gi_con ?_ | refine gi_bip (Nat.le_of_ble_eq_true rfl) ?_ | refine gi_sip (Nat.le_of_ble_eq_true rfl) ?_ | refine gi_ldc ?_ | refine gi_add ?_ | refine gi_inc rfl ?_ | refine gi_sub (by omega) ?_ | refine gi_mul ?_ | refine go_nx rfl ?_)
        refine gn_nR ?_
        repeat (first | refine gc_n3 rfl ?_ | refine gc_n6 rfl ?_ | refine gc_n7 rfl ?_ | refine gc_n8 rfl ?_ | refine gc_n9 rfl ?_ | refine gi_con ?_ | refine gi_bip (Nat.le_of_ble_eq_true rfl) ?_ | refine gi_sip (Nat.le_of_ble_eq_true rfl) ?_ | refine gi_ldc ?_ | refine gi_add ?_ | refine gi_inc rfl ?_ | refine gi_sub (by omega) ?_ | refine gi_mul ?_ | refine go_nx rfl ?_)
        refine go_jp rfl ?_
        refine go_rt rfl ?_
        exact hq
      · rw [if_neg hy] at hq ⊢
        repeat (first | refine gc_n3 rfl ?_ | refine gc_n6 rfl ?_ | refine gc_n7 rfl ?_ | refine gc_n8 rfl ?_ | refine gc_n9 rfl ?_ | refine gi_con ?_ | refine gi_bip (Nat.le_of_ble_eq_true rfl) ?_ | refine gi_sip (Nat.le_of_ble_eq_true rfl) ?_ | refine gi_ldc ?_ | refine gi_add ?_ | refine gi_inc rfl ?_ | refine gi_sub (by omega) ?_ | refine gi_mul ?_ | refine go_nx rfl ?_)
        refine gn_nN ?_
        repeat (first | refine gc_n3 rfl ?_ | refine gc_n6 rfl ?_ | refine gc_n7 rfl ?_ | refine gc_n8 rfl ?_ | refine gc_n9 rfl ?_ | refine gi_con ?_ | refine gi_bip (Nat.le_of_ble_eq_true rfl) ?_ | refine gi_sip (Nat.le_of_ble_eq_true rfl) ?_ | refine gi_ldc ?_ | refine gi_add ?_ | refine gi_inc rfl ?_ | refine gi_sub (by omega) ?_ | refine gi_mul ?_ | refine go_nx rfl ?_)
        refine go_jp rfl ?_
        refine go_rt rfl ?_
        exact hq
  have loop : ∀ (g x y ix iy : Nat) (x5 : Value), q_last B (q_val B e) < g + x → q_at (q_u8 B) (l1 - 1) B (decide (B e = 4)) (q_last B (q_val B e)) x ix → q_at (q_u8 C) (l2 - 1) C (decide (C f = 4)) (q_last C (q_val C f)) y iy → (∀ z ∈ q_els B (q_last B (q_val B e)) g x, nEl h row B N ord (l1 - 1) (q_last B (q_val B e)) z) → (∀ z ∈ q_els C (q_last C (q_val C f)) g y, nEl h row2 C N2 ord2 (l2 - 1) (q_last C (q_val C f)) z) → Q (some (.int (q_bxs (q_ord B C k) B C (q_last B (q_val B e)) (q_last C (q_val C f)) g x y))) h → mm_Go E d 72 (mm_blk 72 1) [.ref (N e), .ref (N2 f), .int (nI dep), if x < q_last B (q_val B e) then .ref (N x) else .null, if y < q_last C (q_val C f) then .ref (N2 y) else .null, x5] [] h Q := by
    intro g
    induction g with
    | zero =>
      intro x y ix iy x5 hg hax
      have := q_at_le hax
      omega
    | succ g ihg =>
      intro x y ix iy x5 hg hax hay hxs hys hq
      unfold q_bxs at hq
      by_cases hx : x < q_last B (q_val B e)
      rotate_left
      · have := five x y x5 (fun q => hx q.1) (by rw [if_neg hx] at hq ⊢; exact hq)
        rw [if_neg hx] at this ⊢
        repeat (first | refine gc_n3 rfl ?_ | refine gc_n6 rfl ?_ | refine gc_n7 rfl ?_ | refine gc_n8 rfl ?_ | refine gc_n9 rfl ?_ | refine gi_con ?_ | refine gi_bip (Nat.le_of_ble_eq_true rfl) ?_ | refine gi_sip (Nat.le_of_ble_eq_true rfl) ?_ | refine gi_ldc ?_ | refine gi_add ?_ | refine gi_inc rfl ?_ | refine gi_sub (by omega) ?_ | refine gi_mul ?_ | refine go_nx rfl ?_)
        refine gn_nN ?_
        exact this
      by_cases hy : y < q_last C (q_val C f)
      rotate_left
      · have := five x y x5 (fun q => hy q.2) (by rw [if_pos hx, if_neg hy] at hq; rw [if_pos hx]; exact hq)
        rw [if_pos hx, if_neg hy] at this ⊢
        repeat (first | refine gc_n3 rfl ?_ | refine gc_n6 rfl ?_ | refine gc_n7 rfl ?_ | refine gc_n8 rfl ?_ | refine gc_n9 rfl ?_ | refine gi_con ?_ | refine gi_bip (Nat.le_of_ble_eq_true rfl) ?_ | refine gi_sip (Nat.le_of_ble_eq_true rfl) ?_ | refine gi_ldc ?_ | refine gi_add ?_ | refine gi_inc rfl ?_ | refine gi_sub (by omega) ?_ | refine gi_mul ?_ | refine go_nx rfl ?_)
        refine gn_nR ?_
        repeat (first | refine gc_n3 rfl ?_ | refine gc_n6 rfl ?_ | refine gc_n7 rfl ?_ | refine gc_n8 rfl ?_ | refine gc_n9 rfl ?_ | refine gi_con ?_ | refine gi_bip (Nat.le_of_ble_eq_true rfl) ?_ | refine gi_sip (Nat.le_of_ble_eq_true rfl) ?_ | refine gi_ldc ?_ | refine gi_add ?_ | refine gi_inc rfl ?_ | refine gi_sub (by omega) ?_ | refine gi_mul ?_ | refine go_nx rfl ?_)
        refine gn_nN ?_
        exact this
      rw [if_pos hx, if_pos hy] at hq ⊢
      rw [q_els_s, if_pos hx] at hxs
      rw [q_els_s, if_pos hy] at hys
      have ex := q_at_el hax hx
      have ey := q_at_el hay hy
      have hX := hxs x List.mem_cons_self
      have hY := hys y List.mem_cons_self
      have mx := q_me_at (n := n) hax hx (by omega)
      have my := q_me_at (n := n2) hay hy (by omega)
      have ox := q_me_ok mx
      have oy := q_me_ok my
      have kx := (q_me_cls mx).2.2.2.2.2.2
      have ky := (q_me_cls my).2.2.2.2.2.2
      have ox1 := ox.1
      have oy1 := oy.1
      have ox2 := ox.2.1
      have oy2 := oy.2.1
      have nx := q_ne_is hrow (show x ≤ 2000 by omega)
      have ny := q_ne_is hrow2 (show y ≤ 2000 by omega)
      have gx : x < q_next B x := by
        have := q_val_ge B x
        unfold q_next
        omega
      have cx : h.2.2 (N x) = some (.inr (4, [.ref row, .int (nI (B x)), .int (nI x), .int (nI (q_ne B x)), .int (nI (q_word B x)), .int (nI (q_cls (B x))), .int (q_tf B x), .int (q_tt B x), .long (q_nu B x), q_fi B N x, q_nx B N (q_last B (q_val B e)) x, .int (nI (ord x))])) := hX.1
      have cy : h.2.2 (N2 y) = some (.inr (4, [.ref row2, .int (nI (C y)), .int (nI y), .int (nI (q_ne C y)), .int (nI (q_word C y)), .int (nI (q_cls (C y))), .int (q_tf C y), .int (q_tt C y), .long (q_nu C y), q_fi C N2 y, q_nx C N2 (q_last C (q_val C f)) y, .int (nI (ord2 y))])) := hY.1
      have three : ∀ z : Int32, z = q_lex (q_lex (q_c3 (q_cls (B x)) (q_cls (C y))) (q_nmc B x C y)) (q_ord B C k x y) → mm_Go E d 72 (mm_blk 72 3) [.ref (N e), .ref (N2 f), .int (nI dep), .ref (N x), .ref (N2 y), .int z] [] h Q := by
        intro z hz
        rw [← hz] at hq
        repeat (first | refine gc_n3 rfl ?_ | refine gc_n6 rfl ?_ | refine gc_n7 rfl ?_ | refine gc_n8 rfl ?_ | refine gc_n9 rfl ?_ | refine gi_con ?_ | refine gi_bip (Nat.le_of_ble_eq_true rfl) ?_ | refine gi_sip (Nat.le_of_ble_eq_true rfl) ?_ | refine gi_ldc ?_ | refine gi_add ?_ | refine gi_inc rfl ?_ | refine gi_sub (by omega) ?_ | refine gi_mul ?_ | refine go_nx rfl ?_)
        refine gx_eq (fun c6 => ?_) (fun c6 => ?_)
        · rw [if_pos c6] at hq
          have this := fun x5 => ihg (q_next B x) (q_next C y) (ix + 1) (iy + 1) x5 (by omega) ex.2.2.2.2 ey.2.2.2.2 (fun w hw => hxs w (List.mem_cons_of_mem _ hw)) (fun w hw => hys w (List.mem_cons_of_mem _ hw)) hq
          have i1 : q_nx B N (q_last B (q_val B e)) x = if q_next B x < q_last B (q_val B e) then .ref (N (q_next B x)) else .null := rfl
          have i2 : q_nx C N2 (q_last C (q_val C f)) y = if q_next C y < q_last C (q_val C f) then .ref (N2 (q_next C y)) else .null := rfl
          rw [← i1, ← i2] at this
          repeat (first | refine gc_n3 rfl ?_ | refine gc_n6 rfl ?_ | refine gc_n7 rfl ?_ | refine gc_n8 rfl ?_ | refine gc_n9 rfl ?_ | refine gi_con ?_ | refine gi_bip (Nat.le_of_ble_eq_true rfl) ?_ | refine gi_sip (Nat.le_of_ble_eq_true rfl) ?_ | refine gi_ldc ?_ | refine gi_add ?_ | refine gi_inc rfl ?_ | refine gi_sub (by omega) ?_ | refine gi_mul ?_ | refine go_nx rfl ?_)
          refine gf_get _ cx (by decide) rfl ?_
          rcases nx_two (B := B) (N := N) (q_last B (q_val B e)) x with w1 | ⟨z1, w1⟩ <;> rcases nx_two (B := C) (N := N2) (q_last C (q_val C f)) y with w2 | ⟨z2, w2⟩
          all_goals
            rw [w1] at this ⊢
            repeat (first | refine gc_n3 rfl ?_ | refine gc_n6 rfl ?_ | refine gc_n7 rfl ?_ | refine gc_n8 rfl ?_ | refine gc_n9 rfl ?_ | refine gi_con ?_ | refine gi_bip (Nat.le_of_ble_eq_true rfl) ?_ | refine gi_sip (Nat.le_of_ble_eq_true rfl) ?_ | refine gi_ldc ?_ | refine gi_add ?_ | refine gi_inc rfl ?_ | refine gi_sub (by omega) ?_ | refine gi_mul ?_ | refine go_nx rfl ?_)
            refine gf_get _ cy (by decide) rfl ?_
            rw [w2] at this ⊢
            repeat (first | refine gc_n3 rfl ?_ | refine gc_n6 rfl ?_ | refine gc_n7 rfl ?_ | refine gc_n8 rfl ?_ | refine gc_n9 rfl ?_ | refine gi_con ?_ | refine gi_bip (Nat.le_of_ble_eq_true rfl) ?_ | refine gi_sip (Nat.le_of_ble_eq_true rfl) ?_ | refine gi_ldc ?_ | refine gi_add ?_ | refine gi_inc rfl ?_ | refine gi_sub (by omega) ?_ | refine gi_mul ?_ | refine go_nx rfl ?_)
            refine go_jp rfl ?_
            exact this _
        · rw [if_neg c6] at hq
          repeat (first | refine gc_n3 rfl ?_ | refine gc_n6 rfl ?_ | refine gc_n7 rfl ?_ | refine gc_n8 rfl ?_ | refine gc_n9 rfl ?_ | refine gi_con ?_ | refine gi_bip (Nat.le_of_ble_eq_true rfl) ?_ | refine gi_sip (Nat.le_of_ble_eq_true rfl) ?_ | refine gi_ldc ?_ | refine gi_add ?_ | refine gi_inc rfl ?_ | refine gi_sub (by omega) ?_ | refine gi_mul ?_ | refine go_nx rfl ?_)
          refine go_rt rfl ?_
          exact hq
      have two : ∀ z : Int32, z = q_lex (q_c3 (q_cls (B x)) (q_cls (C y))) (q_nmc B x C y) → mm_Go E d 72 (mm_blk 72 2) [.ref (N e), .ref (N2 f), .int (nI dep), .ref (N x), .ref (N2 y), .int z] [] h Q := by
        intro z hz
        repeat (first | refine gc_n3 rfl ?_ | refine gc_n6 rfl ?_ | refine gc_n7 rfl ?_ | refine gc_n8 rfl ?_ | refine gc_n9 rfl ?_ | refine gi_con ?_ | refine gi_bip (Nat.le_of_ble_eq_true rfl) ?_ | refine gi_sip (Nat.le_of_ble_eq_true rfl) ?_ | refine gi_ldc ?_ | refine gi_add ?_ | refine gi_inc rfl ?_ | refine gi_sub (by omega) ?_ | refine gi_mul ?_ | refine go_nx rfl ?_)
        refine gx_ne (fun c6 => ?_) (fun c6 => ?_)
        · refine three z ?_
          rw [← hz]
          unfold q_lex
          rw [if_neg c6]
        · repeat (first | refine gc_n3 rfl ?_ | refine gc_n6 rfl ?_ | refine gc_n7 rfl ?_ | refine gc_n8 rfl ?_ | refine gc_n9 rfl ?_ | refine gi_con ?_ | refine gi_bip (Nat.le_of_ble_eq_true rfl) ?_ | refine gi_sip (Nat.le_of_ble_eq_true rfl) ?_ | refine gi_ldc ?_ | refine gi_add ?_ | refine gi_inc rfl ?_ | refine gi_sub (by omega) ?_ | refine gi_mul ?_ | refine go_nx rfl ?_)
          refine go_step ?_
          refine g_call (k := 71) rfl (by omega) (Nat.le_of_ble_eq_true rfl) rfl ?_
          refine hog x y _ _ _ mx my hX hY ?_
          repeat (first | refine gc_n3 rfl ?_ | refine gc_n6 rfl ?_ | refine gc_n7 rfl ?_ | refine gc_n8 rfl ?_ | refine gc_n9 rfl ?_ | refine gi_con ?_ | refine gi_bip (Nat.le_of_ble_eq_true rfl) ?_ | refine gi_sip (Nat.le_of_ble_eq_true rfl) ?_ | refine gi_ldc ?_ | refine gi_add ?_ | refine gi_inc rfl ?_ | refine gi_sub (by omega) ?_ | refine gi_mul ?_ | refine go_nx rfl ?_)
          refine go_jp rfl ?_
          refine three _ ?_
          rw [← hz, c6]
          rfl
      repeat (first | refine gc_n3 rfl ?_ | refine gc_n6 rfl ?_ | refine gc_n7 rfl ?_ | refine gc_n8 rfl ?_ | refine gc_n9 rfl ?_ | refine gi_con ?_ | refine gi_bip (Nat.le_of_ble_eq_true rfl) ?_ | refine gi_sip (Nat.le_of_ble_eq_true rfl) ?_ | refine gi_ldc ?_ | refine gi_add ?_ | refine gi_inc rfl ?_ | refine gi_sub (by omega) ?_ | refine gi_mul ?_ | refine go_nx rfl ?_)
      refine gn_nR ?_
      repeat (first | refine gc_n3 rfl ?_ | refine gc_n6 rfl ?_ | refine gc_n7 rfl ?_ | refine gc_n8 rfl ?_ | refine gc_n9 rfl ?_ | refine gi_con ?_ | refine gi_bip (Nat.le_of_ble_eq_true rfl) ?_ | refine gi_sip (Nat.le_of_ble_eq_true rfl) ?_ | refine gi_ldc ?_ | refine gi_add ?_ | refine gi_inc rfl ?_ | refine gi_sub (by omega) ?_ | refine gi_mul ?_ | refine go_nx rfl ?_)
      refine gn_nR ?_
      repeat (first | refine gc_n3 rfl ?_ | refine gc_n6 rfl ?_ | refine gc_n7 rfl ?_ | refine gc_n8 rfl ?_ | refine gc_n9 rfl ?_ | refine gi_con ?_ | refine gi_bip (Nat.le_of_ble_eq_true rfl) ?_ | refine gi_sip (Nat.le_of_ble_eq_true rfl) ?_ | refine gi_ldc ?_ | refine gi_add ?_ | refine gi_inc rfl ?_ | refine gi_sub (by omega) ?_ | refine gi_mul ?_ | refine go_nx rfl ?_)
      refine gf_get _ cx (by decide) rfl ?_
      repeat (first | refine gc_n3 rfl ?_ | refine gc_n6 rfl ?_ | refine gc_n7 rfl ?_ | refine gc_n8 rfl ?_ | refine gc_n9 rfl ?_ | refine gi_con ?_ | refine gi_bip (Nat.le_of_ble_eq_true rfl) ?_ | refine gi_sip (Nat.le_of_ble_eq_true rfl) ?_ | refine gi_ldc ?_ | refine gi_add ?_ | refine gi_inc rfl ?_ | refine gi_sub (by omega) ?_ | refine gi_mul ?_ | refine go_nx rfl ?_)
      refine gf_get _ cy (by decide) rfl ?_
      repeat (first | refine gc_n3 rfl ?_ | refine gc_n6 rfl ?_ | refine gc_n7 rfl ?_ | refine gc_n8 rfl ?_ | refine gc_n9 rfl ?_ | refine gi_con ?_ | refine gi_bip (Nat.le_of_ble_eq_true rfl) ?_ | refine gi_sip (Nat.le_of_ble_eq_true rfl) ?_ | refine gi_ldc ?_ | refine gi_add ?_ | refine gi_inc rfl ?_ | refine gi_sub (by omega) ?_ | refine gi_mul ?_ | refine go_nx rfl ?_)
      refine go_step ?_
      refine g_call (k := 15) rfl (by omega) (Nat.le_of_ble_eq_true rfl) rfl ?_
      refine sp_icmp (by omega) (by omega) ?_
      repeat (first | refine gc_n3 rfl ?_ | refine gc_n6 rfl ?_ | refine gc_n7 rfl ?_ | refine gc_n8 rfl ?_ | refine gc_n9 rfl ?_ | refine gi_con ?_ | refine gi_bip (Nat.le_of_ble_eq_true rfl) ?_ | refine gi_sip (Nat.le_of_ble_eq_true rfl) ?_ | refine gi_ldc ?_ | refine gi_add ?_ | refine gi_inc rfl ?_ | refine gi_sub (by omega) ?_ | refine gi_mul ?_ | refine go_nx rfl ?_)
      refine gx_ne (fun c6 => ?_) (fun c6 => ?_)
      · refine two _ ?_
        unfold q_lex
        rw [if_neg c6]
      · repeat (first | refine gc_n3 rfl ?_ | refine gc_n6 rfl ?_ | refine gc_n7 rfl ?_ | refine gc_n8 rfl ?_ | refine gc_n9 rfl ?_ | refine gi_con ?_ | refine gi_bip (Nat.le_of_ble_eq_true rfl) ?_ | refine gi_sip (Nat.le_of_ble_eq_true rfl) ?_ | refine gi_ldc ?_ | refine gi_add ?_ | refine gi_inc rfl ?_ | refine gi_sub (by omega) ?_ | refine gi_mul ?_ | refine go_nx rfl ?_)
        refine gf_get _ cx (by decide) rfl ?_
        repeat (first | refine gc_n3 rfl ?_ | refine gc_n6 rfl ?_ | refine gc_n7 rfl ?_ | refine gc_n8 rfl ?_ | refine gc_n9 rfl ?_ | refine gi_con ?_ | refine gi_bip (Nat.le_of_ble_eq_true rfl) ?_ | refine gi_sip (Nat.le_of_ble_eq_true rfl) ?_ | refine gi_ldc ?_ | refine gi_add ?_ | refine gi_inc rfl ?_ | refine gi_sub (by omega) ?_ | refine gi_mul ?_ | refine go_nx rfl ?_)
        refine go_step ?_
        refine g_callV (by decide) (by decide) (Nat.le_of_ble_eq_true rfl) (Nat.le_of_ble_eq_true rfl) (o_rcv cx rfl (by decide)) (by omega) (Nat.le_of_ble_eq_true rfl) rfl ?_
        refine sp_nmFrom cx rfl ?_
        repeat (first | refine gc_n3 rfl ?_ | refine gc_n6 rfl ?_ | refine gc_n7 rfl ?_ | refine gc_n8 rfl ?_ | refine gc_n9 rfl ?_ | refine gi_con ?_ | refine gi_bip (Nat.le_of_ble_eq_true rfl) ?_ | refine gi_sip (Nat.le_of_ble_eq_true rfl) ?_ | refine gi_ldc ?_ | refine gi_add ?_ | refine gi_inc rfl ?_ | refine gi_sub (by omega) ?_ | refine gi_mul ?_ | refine go_nx rfl ?_)
        refine gf_get _ cx (by decide) rfl ?_
        repeat (first | refine gc_n3 rfl ?_ | refine gc_n6 rfl ?_ | refine gc_n7 rfl ?_ | refine gc_n8 rfl ?_ | refine gc_n9 rfl ?_ | refine gi_con ?_ | refine gi_bip (Nat.le_of_ble_eq_true rfl) ?_ | refine gi_sip (Nat.le_of_ble_eq_true rfl) ?_ | refine gi_ldc ?_ | refine gi_add ?_ | refine gi_inc rfl ?_ | refine gi_sub (by omega) ?_ | refine gi_mul ?_ | refine go_nx rfl ?_)
        refine gf_get _ cy (by decide) rfl ?_
        repeat (first | refine gc_n3 rfl ?_ | refine gc_n6 rfl ?_ | refine gc_n7 rfl ?_ | refine gc_n8 rfl ?_ | refine gc_n9 rfl ?_ | refine gi_con ?_ | refine gi_bip (Nat.le_of_ble_eq_true rfl) ?_ | refine gi_sip (Nat.le_of_ble_eq_true rfl) ?_ | refine gi_ldc ?_ | refine gi_add ?_ | refine gi_inc rfl ?_ | refine gi_sub (by omega) ?_ | refine gi_mul ?_ | refine go_nx rfl ?_)
        refine go_step ?_
        refine g_callV (by decide) (by decide) (Nat.le_of_ble_eq_true rfl) (Nat.le_of_ble_eq_true rfl) (o_rcv cy rfl (by decide)) (by omega) (Nat.le_of_ble_eq_true rfl) rfl ?_
        refine sp_nmFrom cy rfl ?_
        repeat (first | refine gc_n3 rfl ?_ | refine gc_n6 rfl ?_ | refine gc_n7 rfl ?_ | refine gc_n8 rfl ?_ | refine gc_n9 rfl ?_ | refine gi_con ?_ | refine gi_bip (Nat.le_of_ble_eq_true rfl) ?_ | refine gi_sip (Nat.le_of_ble_eq_true rfl) ?_ | refine gi_ldc ?_ | refine gi_add ?_ | refine gi_inc rfl ?_ | refine gi_sub (by omega) ?_ | refine gi_mul ?_ | refine go_nx rfl ?_)
        refine gf_get _ cy (by decide) rfl ?_
        repeat (first | refine gc_n3 rfl ?_ | refine gc_n6 rfl ?_ | refine gc_n7 rfl ?_ | refine gc_n8 rfl ?_ | refine gc_n9 rfl ?_ | refine gi_con ?_ | refine gi_bip (Nat.le_of_ble_eq_true rfl) ?_ | refine gi_sip (Nat.le_of_ble_eq_true rfl) ?_ | refine gi_ldc ?_ | refine gi_add ?_ | refine gi_inc rfl ?_ | refine gi_sub (by omega) ?_ | refine gi_mul ?_ | refine go_nx rfl ?_)
        refine go_step ?_
        refine g_call (k := 14) rfl (by omega) (Nat.le_of_ble_eq_true rfl) rfl ?_
        refine sp_compare (by omega) hr hr2 (by omega) (by omega) (by omega) (by omega) ?_
        repeat (first | refine gc_n3 rfl ?_ | refine gc_n6 rfl ?_ | refine gc_n7 rfl ?_ | refine gc_n8 rfl ?_ | refine gc_n9 rfl ?_ | refine gi_con ?_ | refine gi_bip (Nat.le_of_ble_eq_true rfl) ?_ | refine gi_sip (Nat.le_of_ble_eq_true rfl) ?_ | refine gi_ldc ?_ | refine gi_add ?_ | refine gi_inc rfl ?_ | refine gi_sub (by omega) ?_ | refine gi_mul ?_ | refine go_nx rfl ?_)
        refine go_jp rfl ?_
        refine two _ ?_
        rw [c6]
        rfl
  have this := loop 2001 (q_val B e + 4) (q_val C f + 4) 0 0 mm_un (by omega) a5 d5 b1 b2 hq
  have i1 : q_fi B N e = if q_val B e + 4 < q_last B (q_val B e) then .ref (N (q_val B e + 4)) else .null := if_cg ⟨fun q => q.2, fun q => ⟨e1, q⟩⟩
  have i2 : q_fi C N2 f = if q_val C f + 4 < q_last C (q_val C f) then .ref (N2 (q_val C f + 4)) else .null := if_cg ⟨fun q => q.2, fun q => ⟨e2, q⟩⟩
  repeat (first | refine gc_n3 rfl ?_ | refine gc_n6 rfl ?_ | refine gc_n7 rfl ?_ | refine gc_n8 rfl ?_ | refine gc_n9 rfl ?_ | refine gi_con ?_ | refine gi_bip (Nat.le_of_ble_eq_true rfl) ?_ | refine gi_sip (Nat.le_of_ble_eq_true rfl) ?_ | refine gi_ldc ?_ | refine gi_add ?_ | refine gi_inc rfl ?_ | refine gi_sub (by omega) ?_ | refine gi_mul ?_ | refine go_nx rfl ?_)
  refine gf_get _ hc1 (by decide) rfl ?_
  rw [i1]
  by_cases hx : q_val B e + 4 < q_last B (q_val B e)
  · rw [if_pos hx] at this ⊢
    repeat (first | refine gc_n3 rfl ?_ | refine gc_n6 rfl ?_ | refine gc_n7 rfl ?_ | refine gc_n8 rfl ?_ | refine gc_n9 rfl ?_ | refine gi_con ?_ | refine gi_bip (Nat.le_of_ble_eq_true rfl) ?_ | refine gi_sip (Nat.le_of_ble_eq_true rfl) ?_ | refine gi_ldc ?_ | refine gi_add ?_ | refine gi_inc rfl ?_ | refine gi_sub (by omega) ?_ | refine gi_mul ?_ | refine go_nx rfl ?_)
    refine gf_get _ hc2 (by decide) rfl ?_
    rw [i2]
    by_cases hy : q_val C f + 4 < q_last C (q_val C f)
    · rw [if_pos hy] at this ⊢
      repeat (first | refine gc_n3 rfl ?_ | refine gc_n6 rfl ?_ | refine gc_n7 rfl ?_ | refine gc_n8 rfl ?_ | refine gc_n9 rfl ?_ | refine gi_con ?_ | refine gi_bip (Nat.le_of_ble_eq_true rfl) ?_ | refine gi_sip (Nat.le_of_ble_eq_true rfl) ?_ | refine gi_ldc ?_ | refine gi_add ?_ | refine gi_inc rfl ?_ | refine gi_sub (by omega) ?_ | refine gi_mul ?_ | refine go_nx rfl ?_)
      refine go_jp rfl ?_
      exact this
    · rw [if_neg hy] at this ⊢
      repeat (first | refine gc_n3 rfl ?_ | refine gc_n6 rfl ?_ | refine gc_n7 rfl ?_ | refine gc_n8 rfl ?_ | refine gc_n9 rfl ?_ | refine gi_con ?_ | refine gi_bip (Nat.le_of_ble_eq_true rfl) ?_ | refine gi_sip (Nat.le_of_ble_eq_true rfl) ?_ | refine gi_ldc ?_ | refine gi_add ?_ | refine gi_inc rfl ?_ | refine gi_sub (by omega) ?_ | refine gi_mul ?_ | refine go_nx rfl ?_)
      refine go_jp rfl ?_
      exact this
  · rw [if_neg hx] at this ⊢
    repeat (first | refine gc_n3 rfl ?_ | refine gc_n6 rfl ?_ | refine gc_n7 rfl ?_ | refine gc_n8 rfl ?_ | refine gc_n9 rfl ?_ | refine gi_con ?_ | refine gi_bip (Nat.le_of_ble_eq_true rfl) ?_ | refine gi_sip (Nat.le_of_ble_eq_true rfl) ?_ | refine gi_ldc ?_ | refine gi_add ?_ | refine gi_inc rfl ?_ | refine gi_sub (by omega) ?_ | refine gi_mul ?_ | refine go_nx rfl ?_)
    refine gf_get _ hc2 (by decide) rfl ?_
    rw [i2]
    by_cases hy : q_val C f + 4 < q_last C (q_val C f)
    · rw [if_pos hy] at this ⊢
      repeat (first | refine gc_n3 rfl ?_ | refine gc_n6 rfl ?_ | refine gc_n7 rfl ?_ | refine gc_n8 rfl ?_ | refine gc_n9 rfl ?_ | refine gi_con ?_ | refine gi_bip (Nat.le_of_ble_eq_true rfl) ?_ | refine gi_sip (Nat.le_of_ble_eq_true rfl) ?_ | refine gi_ldc ?_ | refine gi_add ?_ | refine gi_inc rfl ?_ | refine gi_sub (by omega) ?_ | refine gi_mul ?_ | refine go_nx rfl ?_)
      refine go_jp rfl ?_
      exact this
    · rw [if_neg hy] at this ⊢
      repeat (first | refine gc_n3 rfl ?_ | refine gc_n6 rfl ?_ | refine gc_n7 rfl ?_ | refine gc_n8 rfl ?_ | refine gc_n9 rfl ?_ | refine gi_con ?_ | refine gi_bip (Nat.le_of_ble_eq_true rfl) ?_ | refine gi_sip (Nat.le_of_ble_eq_true rfl) ?_ | refine gi_ldc ?_ | refine gi_add ?_ | refine gi_inc rfl ?_ | refine gi_sub (by omega) ?_ | refine gi_mul ?_ | refine go_nx rfl ?_)
      refine go_jp rfl ?_
      exact this
theorem sp_ccmp2 (hr : bRow h row n B) (hr2 : bRow h row2 n2 C) (hrow : q_row B n) (hrow2 : q_row C n2) : ∀ (k d e f l1 l2 lim1 lim2 dep : Nat) (Q : Option Value → mmH → Prop), 2 * k + 4 ≤ d → l1 < k → l2 < k → dep + l1 ≤ 17 → q_me B n e l1 → q_me C n2 f l2 → nEl h row B N ord l1 lim1 e → nEl h row2 C N2 ord2 l2 lim2 f → Q (some (.int (q_ord B C k e f))) h → mm_Go E d 71 (mm_blk 71 0) [.ref (N e), .ref (N2 f), .int (nI dep)] [] h Q := by
  have hn := hrow.1
  have hn2 := hrow2.1
  intro k
  induction k with
  | zero => intro d e f l1 l2 lim1 lim2 dep Q hd h1; omega
  | succ k ih =>
    intro d e f l1 l2 lim1 lim2 dep Q hd h1 h2 hdp m1 m2 n1 n2 hq
    have kc1 := q_me_cls m1
    have kc2 := q_me_cls m2
    have k1 := kc1.2.2.2.2.2.2
    have k2 := kc2.2.2.2.2.2.2
    have hc1 : h.2.2 (N e) = some (.inr (4, [.ref row, .int (nI (B e)), .int (nI e), .int (nI (q_ne B e)), .int (nI (q_word B e)), .int (nI (q_cls (B e))), .int (q_tf B e), .int (q_tt B e), .long (q_nu B e), q_fi B N e, q_nx B N lim1 e, .int (nI (ord e))])) := n1.1
    have hc2 : h.2.2 (N2 f) = some (.inr (4, [.ref row2, .int (nI (C f)), .int (nI f), .int (nI (q_ne C f)), .int (nI (q_word C f)), .int (nI (q_cls (C f))), .int (q_tf C f), .int (q_tt C f), .long (q_nu C f), q_fi C N2 f, q_nx C N2 lim2 f, .int (nI (ord2 f))])) := n2.1
    unfold q_ord at hq
    have tab : ∀ c, c ≤ 6 → 1 ≤ c → mm_sw 6 3 [2, 3, 3] (nI c) = (if c = 3 then 2 else if c = 4 ∨ c = 5 then 3 else 6) := by
      intro c hc hc1
      have : ∀ c, c < 7 → mm_sw 6 3 [2, 3, 3] (nI c) = (if c = 3 then 2 else if c = 4 ∨ c = 5 then 3 else 6) := by decide +kernel
      exact this c (by omega)
    repeat (first | refine gc_n3 rfl ?_ | refine gc_n6 rfl ?_ | refine gc_n7 rfl ?_ | refine gc_n8 rfl ?_ | refine gc_n9 rfl ?_ | refine gi_con ?_ | refine gi_bip (Nat.le_of_ble_eq_true rfl) ?_ | refine gi_sip (Nat.le_of_ble_eq_true rfl) ?_ | refine gi_ldc ?_ | refine gi_add ?_ | refine gi_inc rfl ?_ | refine gi_sub (by omega) ?_ | refine gi_mul ?_ | refine go_nx rfl ?_)
    refine gf_get _ hc1 (by decide) rfl ?_
    repeat (first | refine gc_n3 rfl ?_ | refine gc_n6 rfl ?_ | refine gc_n7 rfl ?_ | refine gc_n8 rfl ?_ | refine gc_n9 rfl ?_ | refine gi_con ?_ | refine gi_bip (Nat.le_of_ble_eq_true rfl) ?_ | refine gi_sip (Nat.le_of_ble_eq_true rfl) ?_ | refine gi_ldc ?_ | refine gi_add ?_ | refine gi_inc rfl ?_ | refine gi_sub (by omega) ?_ | refine gi_mul ?_ | refine go_nx rfl ?_)
    refine gf_get _ hc2 (by decide) rfl ?_
    first | refine gb_lt (by omega) (by omega) (fun c1 => ?_) (fun c1 => ?_) | refine gb_ge (by omega) (by omega) (fun c1 => ?_) (fun c1 => ?_) | refine gb_gt (by omega) (by omega) (fun c1 => ?_) (fun c1 => ?_) | refine gb_le (by omega) (by omega) (fun c1 => ?_) (fun c1 => ?_) | refine gb_eq (by omega) (by omega) (fun c1 => ?_) (fun c1 => ?_) | refine gb_ne (by omega) (by omega) (fun c1 => ?_) (fun c1 => ?_)
    rotate_left
    · rw [if_pos c1] at hq
      repeat (first | refine gc_n3 rfl ?_ | refine gc_n6 rfl ?_ | refine gc_n7 rfl ?_ | refine gc_n8 rfl ?_ | refine gc_n9 rfl ?_ | refine gi_con ?_ | refine gi_bip (Nat.le_of_ble_eq_true rfl) ?_ | refine gi_sip (Nat.le_of_ble_eq_true rfl) ?_ | refine gi_ldc ?_ | refine gi_add ?_ | refine gi_inc rfl ?_ | refine gi_sub (by omega) ?_ | refine gi_mul ?_ | refine go_nx rfl ?_)
      refine gf_get _ hc1 (by decide) rfl ?_
      repeat (first | refine gc_n3 rfl ?_ | refine gc_n6 rfl ?_ | refine gc_n7 rfl ?_ | refine gc_n8 rfl ?_ | refine gc_n9 rfl ?_ | refine gi_con ?_ | refine gi_bip (Nat.le_of_ble_eq_true rfl) ?_ | refine gi_sip (Nat.le_of_ble_eq_true rfl) ?_ | refine gi_ldc ?_ | refine gi_add ?_ | refine gi_inc rfl ?_ | refine gi_sub (by omega) ?_ | refine gi_mul ?_ | refine go_nx rfl ?_)
      refine gf_get _ hc2 (by decide) rfl ?_
      repeat (first | refine gc_n3 rfl ?_ | refine gc_n6 rfl ?_ | refine gc_n7 rfl ?_ | refine gc_n8 rfl ?_ | refine gc_n9 rfl ?_ | refine gi_con ?_ | refine gi_bip (Nat.le_of_ble_eq_true rfl) ?_ | refine gi_sip (Nat.le_of_ble_eq_true rfl) ?_ | refine gi_ldc ?_ | refine gi_add ?_ | refine gi_inc rfl ?_ | refine gi_sub (by omega) ?_ | refine gi_mul ?_ | refine go_nx rfl ?_)
      refine go_step ?_
      refine g_call (k := 15) rfl (by omega) (Nat.le_of_ble_eq_true rfl) rfl ?_
      refine sp_icmp (by omega) (by omega) ?_
      refine go_rt rfl ?_
      exact hq
    rw [if_neg (fun q => q c1)] at hq
    repeat (first | refine gc_n3 rfl ?_ | refine gc_n6 rfl ?_ | refine gc_n7 rfl ?_ | refine gc_n8 rfl ?_ | refine gc_n9 rfl ?_ | refine gi_con ?_ | refine gi_bip (Nat.le_of_ble_eq_true rfl) ?_ | refine gi_sip (Nat.le_of_ble_eq_true rfl) ?_ | refine gi_ldc ?_ | refine gi_add ?_ | refine gi_inc rfl ?_ | refine gi_sub (by omega) ?_ | refine gi_mul ?_ | refine go_nx rfl ?_)
    refine gf_get _ hc1 (by decide) rfl ?_
    refine go_jp rfl ?_
    show mm_Go E d 71 (mm_blk 71 (mm_sw 6 3 [2, 3, 3] (nI (q_cls (B e))))) _ _ _ _
    rw [tab _ k1.2 k1.1]
    by_cases c3 : q_cls (B e) = 3
    · rw [if_neg (by omega), if_pos c3] at hq
      rw [if_pos c3]
      have f1 := kc1.2.2.2.1.mp c3
      have f2 := kc2.2.2.2.1.mp (by rw [← c1]; exact c3)
      obtain ⟨t1, t2⟩ := q_me_txt m1 f1
      obtain ⟨t3, t4⟩ := q_me_txt m2 f2
      repeat (first | refine gc_n3 rfl ?_ | refine gc_n6 rfl ?_ | refine gc_n7 rfl ?_ | refine gc_n8 rfl ?_ | refine gc_n9 rfl ?_ | refine gi_con ?_ | refine gi_bip (Nat.le_of_ble_eq_true rfl) ?_ | refine gi_sip (Nat.le_of_ble_eq_true rfl) ?_ | refine gi_ldc ?_ | refine gi_add ?_ | refine gi_inc rfl ?_ | refine gi_sub (by omega) ?_ | refine gi_mul ?_ | refine go_nx rfl ?_)
      refine gf_get _ hc1 (by decide) rfl ?_
      repeat (first | refine gc_n3 rfl ?_ | refine gc_n6 rfl ?_ | refine gc_n7 rfl ?_ | refine gc_n8 rfl ?_ | refine gc_n9 rfl ?_ | refine gi_con ?_ | refine gi_bip (Nat.le_of_ble_eq_true rfl) ?_ | refine gi_sip (Nat.le_of_ble_eq_true rfl) ?_ | refine gi_ldc ?_ | refine gi_add ?_ | refine gi_inc rfl ?_ | refine gi_sub (by omega) ?_ | refine gi_mul ?_ | refine go_nx rfl ?_)
      refine gf_get _ hc1 (by decide) rfl ?_
      rw [show q_tf B e = nI (q_val B e + 4) from if_pos f1]
      repeat (first | refine gc_n3 rfl ?_ | refine gc_n6 rfl ?_ | refine gc_n7 rfl ?_ | refine gc_n8 rfl ?_ | refine gc_n9 rfl ?_ | refine gi_con ?_ | refine gi_bip (Nat.le_of_ble_eq_true rfl) ?_ | refine gi_sip (Nat.le_of_ble_eq_true rfl) ?_ | refine gi_ldc ?_ | refine gi_add ?_ | refine gi_inc rfl ?_ | refine gi_sub (by omega) ?_ | refine gi_mul ?_ | refine go_nx rfl ?_)
      refine gf_get _ hc1 (by decide) rfl ?_
      rw [show q_tt B e = nI (q_val B e + 3 + q_sz B (q_val B e)) from if_pos f1]
      repeat (first | refine gc_n3 rfl ?_ | refine gc_n6 rfl ?_ | refine gc_n7 rfl ?_ | refine gc_n8 rfl ?_ | refine gc_n9 rfl ?_ | refine gi_con ?_ | refine gi_bip (Nat.le_of_ble_eq_true rfl) ?_ | refine gi_sip (Nat.le_of_ble_eq_true rfl) ?_ | refine gi_ldc ?_ | refine gi_add ?_ | refine gi_inc rfl ?_ | refine gi_sub (by omega) ?_ | refine gi_mul ?_ | refine go_nx rfl ?_)
      refine gf_get _ hc2 (by decide) rfl ?_
      repeat (first | refine gc_n3 rfl ?_ | refine gc_n6 rfl ?_ | refine gc_n7 rfl ?_ | refine gc_n8 rfl ?_ | refine gc_n9 rfl ?_ | refine gi_con ?_ | refine gi_bip (Nat.le_of_ble_eq_true rfl) ?_ | refine gi_sip (Nat.le_of_ble_eq_true rfl) ?_ | refine gi_ldc ?_ | refine gi_add ?_ | refine gi_inc rfl ?_ | refine gi_sub (by omega) ?_ | refine gi_mul ?_ | refine go_nx rfl ?_)
      refine gf_get _ hc2 (by decide) rfl ?_
      rw [show q_tf C f = nI (q_val C f + 4) from if_pos f2]
      repeat (first | refine gc_n3 rfl ?_ | refine gc_n6 rfl ?_ | refine gc_n7 rfl ?_ | refine gc_n8 rfl ?_ | refine gc_n9 rfl ?_ | refine gi_con ?_ | refine gi_bip (Nat.le_of_ble_eq_true rfl) ?_ | refine gi_sip (Nat.le_of_ble_eq_true rfl) ?_ | refine gi_ldc ?_ | refine gi_add ?_ | refine gi_inc rfl ?_ | refine gi_sub (by omega) ?_ | refine gi_mul ?_ | refine go_nx rfl ?_)
      refine gf_get _ hc2 (by decide) rfl ?_
      rw [show q_tt C f = nI (q_val C f + 3 + q_sz C (q_val C f)) from if_pos f2]
      repeat (first | refine gc_n3 rfl ?_ | refine gc_n6 rfl ?_ | refine gc_n7 rfl ?_ | refine gc_n8 rfl ?_ | refine gc_n9 rfl ?_ | refine gi_con ?_ | refine gi_bip (Nat.le_of_ble_eq_true rfl) ?_ | refine gi_sip (Nat.le_of_ble_eq_true rfl) ?_ | refine gi_ldc ?_ | refine gi_add ?_ | refine gi_inc rfl ?_ | refine gi_sub (by omega) ?_ | refine gi_mul ?_ | refine go_nx rfl ?_)
      refine go_step ?_
      refine g_call (k := 14) rfl (by omega) (Nat.le_of_ble_eq_true rfl) rfl ?_
      refine sp_compare (by omega) hr hr2 (by omega) (by omega) (by omega) (by omega) ?_
      refine go_rt rfl ?_
      rw [show q_val B e + 3 + q_sz B (q_val B e) - (q_val B e + 4) = q_sz B (q_val B e) - 1 by omega, show q_val C f + 3 + q_sz C (q_val C f) - (q_val C f + 4) = q_sz C (q_val C f) - 1 by omega]
      exact hq
    rw [if_neg c3]
    by_cases c45 : q_cls (B e) = 4 ∨ q_cls (B e) = 5
    · rw [if_neg (by omega), if_neg c3, if_pos c45] at hq
      rw [if_pos c45]
      have e1 : B e = 3 ∨ B e = 4 := c45.imp kc1.2.2.2.2.1.mp kc1.2.2.2.2.2.1.mp
      have e2 : C f = 3 ∨ C f = 4 := by
        rw [c1] at c45
        exact c45.imp kc2.2.2.2.2.1.mp kc2.2.2.2.2.2.1.mp
      have l1p := (q_me_box m1 e1).1
      have l2p := (q_me_box m2 e2).1
      repeat (first | refine gc_n3 rfl ?_ | refine gc_n6 rfl ?_ | refine gc_n7 rfl ?_ | refine gc_n8 rfl ?_ | refine gc_n9 rfl ?_ | refine gi_con ?_ | refine gi_bip (Nat.le_of_ble_eq_true rfl) ?_ | refine gi_sip (Nat.le_of_ble_eq_true rfl) ?_ | refine gi_ldc ?_ | refine gi_add ?_ | refine gi_inc rfl ?_ | refine gi_sub (by omega) ?_ | refine gi_mul ?_ | refine go_nx rfl ?_)
      first | refine gb_lt (by omega) (by omega) (fun c6 => ?_) (fun c6 => ?_) | refine gb_ge (by omega) (by omega) (fun c6 => ?_) (fun c6 => ?_) | refine gb_gt (by omega) (by omega) (fun c6 => ?_) (fun c6 => ?_) | refine gb_le (by omega) (by omega) (fun c6 => ?_) (fun c6 => ?_) | refine gb_eq (by omega) (by omega) (fun c6 => ?_) (fun c6 => ?_) | refine gb_ne (by omega) (by omega) (fun c6 => ?_) (fun c6 => ?_)
      rotate_left
      · omega
      repeat (first | refine gc_n3 rfl ?_ | refine gc_n6 rfl ?_ | refine gc_n7 rfl ?_ | refine gc_n8 rfl ?_ | refine gc_n9 rfl ?_ | refine gi_con ?_ | refine gi_bip (Nat.le_of_ble_eq_true rfl) ?_ | refine gi_sip (Nat.le_of_ble_eq_true rfl) ?_ | refine gi_ldc ?_ | refine gi_add ?_ | refine gi_inc rfl ?_ | refine gi_sub (by omega) ?_ | refine gi_mul ?_ | refine go_nx rfl ?_)
      refine go_step ?_
      refine g_call (k := 72) rfl (by omega) (Nat.le_of_ble_eq_true rfl) rfl ?_
      refine sp_cparts2 (k := k) (by omega) hr hr2 hrow hrow2 m1 m2 n1 n2 e1 e2 (fun x y lx ly Q' mx my nx ny hq' => ?_) ?_
      · exact ih (d - 1 - 1) x y (l1 - 1) (l2 - 1) lx ly (dep + 1) Q' (by omega) (by omega) (by omega) (by omega) mx my nx ny hq'
      refine go_jp rfl ?_
      refine go_rt rfl ?_
      exact hq
    · rw [if_neg c45]
      repeat (first | refine gc_n3 rfl ?_ | refine gc_n6 rfl ?_ | refine gc_n7 rfl ?_ | refine gc_n8 rfl ?_ | refine gc_n9 rfl ?_ | refine gi_con ?_ | refine gi_bip (Nat.le_of_ble_eq_true rfl) ?_ | refine gi_sip (Nat.le_of_ble_eq_true rfl) ?_ | refine gi_ldc ?_ | refine gi_add ?_ | refine gi_inc rfl ?_ | refine gi_sub (by omega) ?_ | refine gi_mul ?_ | refine go_nx rfl ?_)
      refine gf_get _ hc1 (by decide) rfl ?_
      repeat (first | refine gc_n3 rfl ?_ | refine gc_n6 rfl ?_ | refine gc_n7 rfl ?_ | refine gc_n8 rfl ?_ | refine gc_n9 rfl ?_ | refine gi_con ?_ | refine gi_bip (Nat.le_of_ble_eq_true rfl) ?_ | refine gi_sip (Nat.le_of_ble_eq_true rfl) ?_ | refine gi_ldc ?_ | refine gi_add ?_ | refine gi_inc rfl ?_ | refine gi_sub (by omega) ?_ | refine gi_mul ?_ | refine go_nx rfl ?_)
      refine gf_get _ hc2 (by decide) rfl ?_
      repeat (first | refine gc_n3 rfl ?_ | refine gc_n6 rfl ?_ | refine gc_n7 rfl ?_ | refine gc_n8 rfl ?_ | refine gc_n9 rfl ?_ | refine gi_con ?_ | refine gi_bip (Nat.le_of_ble_eq_true rfl) ?_ | refine gi_sip (Nat.le_of_ble_eq_true rfl) ?_ | refine gi_ldc ?_ | refine gi_add ?_ | refine gi_inc rfl ?_ | refine gi_sub (by omega) ?_ | refine gi_mul ?_ | refine go_nx rfl ?_)
      refine go_step ?_
      refine g_call (k := 73) rfl (by omega) (Nat.le_of_ble_eq_true rfl) rfl ?_
      refine sp_lcmp ?_
      refine go_rt rfl ?_
      by_cases c26 : q_cls (B e) = 2 ∨ q_cls (B e) = 6
      · rw [if_pos c26] at hq
        have f1 : B e = 16 ∨ B e = 18 ∨ B e = 8 := by
          rcases c26 with c | c
          · rcases kc1.2.1.mp c with c | c
            · exact Or.inl c
            · exact Or.inr (Or.inl c)
          · exact Or.inr (Or.inr (kc1.2.2.1.mp c))
        have f2 : C f = 16 ∨ C f = 18 ∨ C f = 8 := by
          rw [c1] at c26
          rcases c26 with c | c
          · rcases kc2.2.1.mp c with c | c
            · exact Or.inl c
            · exact Or.inr (Or.inl c)
          · exact Or.inr (Or.inr (kc2.2.2.1.mp c))
        rw [show q_nu B e = q_num B (B e) (q_val B e) from if_pos f1, show q_nu C f = q_num C (C f) (q_val C f) from if_pos f2]
        exact hq
      · rw [if_neg c26, if_neg c3, if_neg c45] at hq
        have g1 : B e = 10 := kc1.1.mp (by omega)
        have g2 : C f = 10 := kc2.1.mp (by omega)
        rw [show q_nu B e = 0 from if_neg (by omega), show q_nu C f = 0 from if_neg (by omega)]
        exact hq
end C
/-! the order the other way round -/
def q_sw (x : Int32) : Int32 := if x = 1 then -1 else if x = -1 then 1 else x
theorem c3_sw (x y : Nat) : q_c3 y x = q_sw (q_c3 x y) := by
  rcases Nat.lt_trichotomy x y with h | h | h
  · rw [c3_lt.mpr h, c3_gt.mpr h]; decide
  · rw [q_c3_0.mpr h, q_c3_0.mpr h.symm]; decide
  · rw [c3_gt.mpr h, c3_lt.mpr h]; decide
theorem c64_sw (x y : Int64) : q_c64 y x = q_sw (q_c64 x y) := by
  rcases q_c64_is x y with ⟨h, q⟩ | ⟨h, q⟩ | ⟨h, q⟩ <;> rcases q_c64_is y x with ⟨h2, q2⟩ | ⟨h2, q2⟩ | ⟨h2, q2⟩
  · exact (Int64.lt_irrefl (Int64.lt_trans q q2)).elim
  · rw [q2] at q; exact (Int64.lt_irrefl q).elim
  · rw [h, h2]; decide
  · rw [q] at q2; exact (Int64.lt_irrefl q2).elim
  · rw [h, h2]; decide
  · rw [q] at q2; exact (Int64.lt_irrefl q2).elim
  · rw [h, h2]; decide
  · rw [q2] at q; exact (Int64.lt_irrefl q).elim
  · exact (Int64.lt_irrefl (Int64.lt_trans q q2)).elim
theorem lex_sw {a b a' b' : Int32} (h1 : a' = q_sw a) (h2 : b' = q_sw b) : q_lex a' b' = q_sw (q_lex a b) := by
  subst h1 h2
  unfold q_lex
  by_cases h : a = 0
  · rw [if_pos h, h, if_pos (by decide)]
  · rw [if_neg h, if_neg]
    intro q
    unfold q_sw at q
    split at q
    · exact absurd q (by decide)
    · split at q
      · exact absurd q (by decide)
      · exact h q
theorem by_sw (A B : Nat → Nat) (n m : Nat) : ∀ k i, q_by B A m n k i = q_sw (q_by A B n m k i) := by
  intro k
  induction k with
  | zero => intro i; exact c3_sw n m
  | succ k ih =>
    intro i
    unfold q_by
    by_cases h : A i = B i
    · rw [if_pos h, if_pos h.symm]; exact ih _
    · rw [if_neg h, if_neg (fun q => h q.symm)]; exact c3_sw _ _
theorem bytes_sw (A B : Nat → Nat) (n m : Nat) : q_bytes B m A n = q_sw (q_bytes A n B m) := by
  unfold q_bytes
  rw [Nat.min_comm]
  exact by_sw A B n m _ _
theorem bxs_sw {B C : Nat → Nat} {og og' : Nat → Nat → Int32} (ho : ∀ e f, og' f e = q_sw (og e f)) (L M : Nat) : ∀ g e f, q_bxs og' C B M L g f e = q_sw (q_bxs og B C L M g e f) := by
  intro g
  induction g with
  | zero => intro e f; exact (show (0 : Int32) = q_sw 0 by decide)
  | succ g ih =>
    intro e f
    have r : ∀ (og : Nat → Nat → Int32) (B C : Nat → Nat) (L M g e f : Nat), q_bxs og B C L M (g + 1) e f = if e < L then (if f < M then (if q_lex (q_lex (q_c3 (q_cls (B e)) (q_cls (C f))) (q_nmc B e C f)) (og e f) = 0 then q_bxs og B C L M g (q_next B e) (q_next C f) else q_lex (q_lex (q_c3 (q_cls (B e)) (q_cls (C f))) (q_nmc B e C f)) (og e f)) else 1) else if f < M then -1 else 0 := fun _ _ _ _ _ _ _ _ => rfl
    rw [r, r]
    have hx : q_lex (q_lex (q_c3 (q_cls (C f)) (q_cls (B e))) (q_nmc C f B e)) (og' f e) = q_sw (q_lex (q_lex (q_c3 (q_cls (B e)) (q_cls (C f))) (q_nmc B e C f)) (og e f)) := lex_sw (lex_sw (c3_sw _ _) (bytes_sw _ _ _ _)) (ho e f)
    by_cases h1 : e < L
    · by_cases h2 : f < M
      · simp only [if_pos h1, if_pos h2]
        rw [hx]
        generalize q_lex (q_lex (q_c3 (q_cls (B e)) (q_cls (C f))) (q_nmc B e C f)) (og e f) = z
        by_cases hz : z = 0
        · rw [if_pos hz, hz, if_pos (by decide)]
          exact ih _ _
        · rw [if_neg hz, if_neg]
          intro q
          unfold q_sw at q
          split at q
          · exact absurd q (by decide)
          · split at q
            · exact absurd q (by decide)
            · exact hz q
      · simp only [if_pos h1, if_neg h2]
        decide
    · by_cases h2 : f < M
      · simp only [if_neg h1, if_pos h2]
        decide
      · simp only [if_neg h1, if_neg h2]
        decide
theorem ord_sw {B C : Nat → Nat} : ∀ k e f, q_ord C B k f e = q_sw (q_ord B C k e f) := by
  intro k
  induction k with
  | zero => intro e f; exact (show (0 : Int32) = q_sw 0 by decide)
  | succ k ih =>
    intro e f
    unfold q_ord
    by_cases h1 : q_cls (B e) = q_cls (C f)
    · rw [if_neg (show ¬ q_cls (C f) ≠ q_cls (B e) from fun q => q h1.symm), if_neg (show ¬ q_cls (B e) ≠ q_cls (C f) from fun q => q h1), h1]
      by_cases h2 : q_cls (C f) = 2 ∨ q_cls (C f) = 6
      · rw [if_pos h2, if_pos h2]
        exact c64_sw _ _
      · rw [if_neg h2, if_neg h2]
        by_cases h3 : q_cls (C f) = 3
        · rw [if_pos h3, if_pos h3]
          exact bytes_sw _ _ _ _
        · rw [if_neg h3, if_neg h3]
          by_cases h4 : q_cls (C f) = 4 ∨ q_cls (C f) = 5
          · rw [if_pos h4, if_pos h4]
            exact bxs_sw (fun e f => ih e f) _ _ _ _ _
          · rw [if_neg h4, if_neg h4]
            decide
    · rw [if_pos (show q_cls (C f) ≠ q_cls (B e) from fun q => h1 q.symm), if_pos (show q_cls (B e) ≠ q_cls (C f) from h1)]
      exact c3_sw _ _
