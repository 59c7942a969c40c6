/-! THE CLASS: the checker's small questions -/
def nEl (h : mmH) (row : Nat) (B N ord : Nat → Nat) (lev lim e : Nat) : Prop := h.2.2 (N e) = some (nFull row B N ord lim e) ∧ (B e = 3 ∨ B e = 4 → nBox h row B N ord lev (q_val B e))
section W
variable {u : Nat → Bool} {B N ord : Nat → Nat} {h h' : mmH} {row : Nat}
theorem nBox_sub (hs : ∀ b c, h.2.2 b = some (.inr (4, c)) → h'.2.2 b = h.2.2 b) : ∀ {k v : Nat}, nBox h row B N ord k v → nBox h' row B N ord k v := by
  intro k
  induction k with
  | zero => intro v _; trivial
  | succ k ih =>
    intro v hb
    rw [nBox_s] at hb ⊢
    intro x hx
    obtain ⟨c1, c2⟩ := hb x hx
    exact ⟨by rw [hs _ _ c1]; exact c1, fun h34 => ih (c2 h34)⟩
theorem nEl_sub (hs : ∀ b c, h.2.2 b = some (.inr (4, c)) → h'.2.2 b = h.2.2 b) {lev lim e : Nat} (he : nEl h row B N ord lev lim e) : nEl h' row B N ord lev lim e := ⟨by rw [hs _ _ he.1]; exact he.1, fun h34 => nBox_sub hs (he.2 h34)⟩
theorem nEl_first {lev lim e stop : Nat} {rw_ : Bool} (he : nEl h row B N ord lev lim e) (hb : q_box u B lev (q_val B e) stop rw_ = true) (h34 : B e = 3 ∨ B e = 4) (hlt : q_val B e + 4 < q_last B (q_val B e)) : nEl h row B N ord (lev - 1) (q_last B (q_val B e)) (q_val B e + 4) := by
  have hn := he.2 h34
  have hlev : lev = lev - 1 + 1 := by have := q_box_pos hb; omega
  rw [hlev, nBox_s] at hn
  refine hn _ ?_
  unfold q_box_els
  rw [q_els_s, if_pos hlt]
  exact List.mem_cons_self
theorem q_fi_1 {e : Nat} (h34 : B e = 3 ∨ B e = 4) (hlt : q_val B e + 4 < q_last B (q_val B e)) : q_fi B N e = .ref (N (q_val B e + 4)) := if_pos ⟨h34, hlt⟩
theorem q_fi_0 {e : Nat} (hlt : ¬ q_val B e + 4 < q_last B (q_val B e)) : q_fi B N e = .null := if_neg (fun q => hlt q.2)
theorem q_fi_k {e : Nat} (h34 : ¬ (B e = 3 ∨ B e = 4)) : q_fi B N e = .null := if_neg (fun q => h34 q.1)
end W
section C
variable {E : mmE} {d : Nat} {h : mmH} {Q : Option Value → mmH → Prop} {row n lev lim e stop : Nat} {B N ord : Nat → Nat} {u : Nat → Bool}
theorem sp_iscond {rw_ : Bool} (he : nEl h row B N ord lev lim e) (hrow : q_row B n) (hbx : B e = 3 → q_box u B lev (q_val B e) stop rw_ = true) (hst : stop ≤ n) (hq : Q (some (.int (q_t (q_cond B e)))) h) : mm_Go E d 61 (mm_blk 61 0) [.ref (N e)] [] h Q := by
  have hB := hrow.2.1 e
  have hn := hrow.1
  have hc : h.2.2 (N e) = some (.inr (4, [.ref row, .int (nI (B e)), .int (nI e), .int (nI (q_ne B e)), .int (nI (q_word B e)), .int (nI (q_cls (B e))), .int (q_tf B e), .int (q_tt B e), .long (q_nu B e), q_fi B N e, q_nx B N lim e, .int (nI (ord e))])) := he.1
  unfold q_cond at hq
  have one : (decide (B e = 3) && (decide (5 < q_sz B (q_val B e)) && decide (B (q_val B e + 5) = 36))) = false → mm_Go E d 61 (mm_blk 61 1) [.ref (N e)] [] h Q := by
    intro e1
    rw [e1] at hq
    repeat (first | refine gi_con ?_ | refine gi_bip (Nat.le_of_ble_eq_true rfl) ?_ | refine gi_sip (Nat.le_of_ble_eq_true rfl) ?_ | refine gi_ldc ?_ | refine gi_add ?_ | refine gi_inc rfl ?_ | refine gi_sub (by omega) ?_ | refine gi_mul ?_ | refine go_nx rfl ?_)
    refine go_jp rfl ?_
    refine go_rt rfl ?_
    exact hq
  repeat (first | refine gi_con ?_ | refine gi_bip (Nat.le_of_ble_eq_true rfl) ?_ | refine gi_sip (Nat.le_of_ble_eq_true rfl) ?_ | refine gi_ldc ?_ | refine gi_add ?_ | refine gi_inc rfl ?_ | refine gi_sub (by omega) ?_ | refine gi_mul ?_ | refine go_nx rfl ?_)
  refine gf_get _ hc (by decide) rfl ?_
  repeat (first | refine gi_con ?_ | refine gi_bip (Nat.le_of_ble_eq_true rfl) ?_ | refine gi_sip (Nat.le_of_ble_eq_true rfl) ?_ | refine gi_ldc ?_ | refine gi_add ?_ | refine gi_inc rfl ?_ | refine gi_sub (by omega) ?_ | refine gi_mul ?_ | refine go_nx rfl ?_)
  first | refine gb_lt (by omega) (by omega) (fun c1 => ?_) (fun c1 => ?_) | refine gb_ge (by omega) (by omega) (fun c1 => ?_) (fun c1 => ?_) | refine gb_gt (by omega) (by omega) (fun c1 => ?_) (fun c1 => ?_) | refine gb_le (by omega) (by omega) (fun c1 => ?_) (fun c1 => ?_) | refine gb_eq (by omega) (by omega) (fun c1 => ?_) (fun c1 => ?_) | refine gb_ne (by omega) (by omega) (fun c1 => ?_) (fun c1 => ?_)
  · exact one (by rw [decide_eq_false c1]; rfl)
  have hb := hbx c1
  have hbl := q_box_le hb
  repeat (first | refine gi_con ?_ | refine gi_bip (Nat.le_of_ble_eq_true rfl) ?_ | refine gi_sip (Nat.le_of_ble_eq_true rfl) ?_ | refine gi_ldc ?_ | refine gi_add ?_ | refine gi_inc rfl ?_ | refine gi_sub (by omega) ?_ | refine gi_mul ?_ | refine go_nx rfl ?_)
  refine gf_get _ hc (by decide) rfl ?_
  by_cases hlt : q_val B e + 4 < q_last B (q_val B e)
  · have hlt2 : 5 < q_sz B (q_val B e) := by unfold q_last at hlt; omega
    rw [q_fi_1 (Or.inl c1) hlt] at hc ⊢
    have hf := (nEl_first he hb (Or.inl c1) hlt).1
    have hf' : h.2.2 (N (q_val B e + 4)) = some (.inr (4, [.ref row, .int (nI (B (q_val B e + 4))), .int (nI (q_val B e + 4)), .int (nI (q_ne B (q_val B e + 4))), .int (nI (q_word B (q_val B e + 4))), .int (nI (q_cls (B (q_val B e + 4)))), .int (q_tf B (q_val B e + 4)), .int (q_tt B (q_val B e + 4)), .long (q_nu B (q_val B e + 4)), q_fi B N (q_val B e + 4), q_nx B N (q_last B (q_val B e)) (q_val B e + 4), .int (nI (ord (q_val B e + 4)))])) := hf
    have hw := q_word_le B (q_val B e + 4)
    have hw0 := q_word_0 (e := q_val B e + 4) hrow (by omega)
    refine gn_nR ?_
    repeat (first | refine gi_con ?_ | refine gi_bip (Nat.le_of_ble_eq_true rfl) ?_ | refine gi_sip (Nat.le_of_ble_eq_true rfl) ?_ | refine gi_ldc ?_ | refine gi_add ?_ | refine gi_inc rfl ?_ | refine gi_sub (by omega) ?_ | refine gi_mul ?_ | refine go_nx rfl ?_)
    refine gf_get _ hc (by decide) rfl ?_
    repeat (first | refine gi_con ?_ | refine gi_bip (Nat.le_of_ble_eq_true rfl) ?_ | refine gi_sip (Nat.le_of_ble_eq_true rfl) ?_ | refine gi_ldc ?_ | refine gi_add ?_ | refine gi_inc rfl ?_ | refine gi_sub (by omega) ?_ | refine gi_mul ?_ | refine go_nx rfl ?_)
    refine gf_get _ hf' (by decide) rfl ?_
    first | refine gz_eq (by omega) (fun c2 => ?_) (fun c2 => ?_) | refine gz_ne (by omega) (fun c2 => ?_) (fun c2 => ?_) | refine gz_le (by omega) (fun c2 => ?_) (fun c2 => ?_) | refine gz_gt (by omega) (fun c2 => ?_) (fun c2 => ?_) | refine gz_lt (by omega) (fun c2 => ?_) (fun c2 => ?_) | refine gz_ge (by omega) (fun c2 => ?_) (fun c2 => ?_)
    · refine one ?_
      rw [decide_eq_false (show ¬ B (q_val B e + 5) = 36 from hw0.mp c2), Bool.and_false, Bool.and_false]
    · have h36 : B (q_val B e + 5) = 36 := by
        by_cases h36 : B (q_val B e + 5) = 36
        · exact h36
        · have := hw0.mpr h36
          omega
      rw [decide_eq_true c1, decide_eq_true hlt2, decide_eq_true h36] at hq
      repeat (first | refine gi_con ?_ | refine gi_bip (Nat.le_of_ble_eq_true rfl) ?_ | refine gi_sip (Nat.le_of_ble_eq_true rfl) ?_ | refine gi_ldc ?_ | refine gi_add ?_ | refine gi_inc rfl ?_ | refine gi_sub (by omega) ?_ | refine gi_mul ?_ | refine go_nx rfl ?_)
      refine go_jp rfl ?_
      refine go_rt rfl ?_
      exact hq
  · have hlt2 : ¬ 5 < q_sz B (q_val B e) := by unfold q_last at hlt; omega
    rw [q_fi_0 hlt]
    refine gn_nN ?_
    exact one (by rw [decide_eq_false hlt2, Bool.false_and, Bool.and_false])
theorem sp_joins {fs : List Value} {a : Nat} (ha : h.2.2 a = some (.inr (4, fs))) (h4 : fs[4]? = some (.int (nI (q_word B e)))) (hq : Q (some (.int (q_t (q_join B e)))) h) : mm_Go E d 65 (mm_blk 65 0) [.ref a] [] h Q := by
  have hw := q_word_le B e
  unfold q_join at hq
  have one : (q_word B e = 2 ∨ q_word B e = 3 ∨ q_word B e = 4) → mm_Go E d 65 (mm_blk 65 1) [.ref a] [] h Q := by
    intro e1
    have e2 : (decide (q_word B e = 2) || (decide (q_word B e = 3) || decide (q_word B e = 4))) = true := by
      rcases e1 with e1 | e1 | e1 <;> rw [e1] <;> rfl
    rw [e2] at hq
    repeat (first | refine gi_con ?_ | refine gi_bip (Nat.le_of_ble_eq_true rfl) ?_ | refine gi_sip (Nat.le_of_ble_eq_true rfl) ?_ | refine gi_ldc ?_ | refine gi_add ?_ | refine gi_inc rfl ?_ | refine gi_sub (by omega) ?_ | refine gi_mul ?_ | refine go_nx rfl ?_)
    refine go_jp rfl ?_
    refine go_rt rfl ?_
    exact hq
  repeat (first | refine gi_con ?_ | refine gi_bip (Nat.le_of_ble_eq_true rfl) ?_ | refine gi_sip (Nat.le_of_ble_eq_true rfl) ?_ | refine gi_ldc ?_ | refine gi_add ?_ | refine gi_inc rfl ?_ | refine gi_sub (by omega) ?_ | refine gi_mul ?_ | refine go_nx rfl ?_)
  refine gf_get (.int (nI (q_word B e))) ha (by decide) h4 ?_
  repeat (first | refine gi_con ?_ | refine gi_bip (Nat.le_of_ble_eq_true rfl) ?_ | refine gi_sip (Nat.le_of_ble_eq_true rfl) ?_ | refine gi_ldc ?_ | refine gi_add ?_ | refine gi_inc rfl ?_ | refine gi_sub (by omega) ?_ | refine gi_mul ?_ | refine go_nx rfl ?_)
  first | refine gb_lt (by omega) (by omega) (fun c1 => ?_) (fun c1 => ?_) | refine gb_ge (by omega) (by omega) (fun c1 => ?_) (fun c1 => ?_) | refine gb_gt (by omega) (by omega) (fun c1 => ?_) (fun c1 => ?_) | refine gb_le (by omega) (by omega) (fun c1 => ?_) (fun c1 => ?_) | refine gb_eq (by omega) (by omega) (fun c1 => ?_) (fun c1 => ?_) | refine gb_ne (by omega) (by omega) (fun c1 => ?_) (fun c1 => ?_)
  · exact one (Or.inl c1)
  repeat (first | refine gi_con ?_ | refine gi_bip (Nat.le_of_ble_eq_true rfl) ?_ | refine gi_sip (Nat.le_of_ble_eq_true rfl) ?_ | refine gi_ldc ?_ | refine gi_add ?_ | refine gi_inc rfl ?_ | refine gi_sub (by omega) ?_ | refine gi_mul ?_ | refine go_nx rfl ?_)
  refine gf_get (.int (nI (q_word B e))) ha (by decide) h4 ?_
  repeat (first | refine gi_con ?_ | refine gi_bip (Nat.le_of_ble_eq_true rfl) ?_ | refine gi_sip (Nat.le_of_ble_eq_true rfl) ?_ | refine gi_ldc ?_ | refine gi_add ?_ | refine gi_inc rfl ?_ | refine gi_sub (by omega) ?_ | refine gi_mul ?_ | refine go_nx rfl ?_)
  first | refine gb_lt (by omega) (by omega) (fun c2 => ?_) (fun c2 => ?_) | refine gb_ge (by omega) (by omega) (fun c2 => ?_) (fun c2 => ?_) | refine gb_gt (by omega) (by omega) (fun c2 => ?_) (fun c2 => ?_) | refine gb_le (by omega) (by omega) (fun c2 => ?_) (fun c2 => ?_) | refine gb_eq (by omega) (by omega) (fun c2 => ?_) (fun c2 => ?_) | refine gb_ne (by omega) (by omega) (fun c2 => ?_) (fun c2 => ?_)
  · exact one (Or.inr (Or.inl c2))
  repeat (first | refine gi_con ?_ | refine gi_bip (Nat.le_of_ble_eq_true rfl) ?_ | refine gi_sip (Nat.le_of_ble_eq_true rfl) ?_ | refine gi_ldc ?_ | refine gi_add ?_ | refine gi_inc rfl ?_ | refine gi_sub (by omega) ?_ | refine gi_mul ?_ | refine go_nx rfl ?_)
  refine gf_get (.int (nI (q_word B e))) ha (by decide) h4 ?_
  repeat (first | refine gi_con ?_ | refine gi_bip (Nat.le_of_ble_eq_true rfl) ?_ | refine gi_sip (Nat.le_of_ble_eq_true rfl) ?_ | refine gi_ldc ?_ | refine gi_add ?_ | refine gi_inc rfl ?_ | refine gi_sub (by omega) ?_ | refine gi_mul ?_ | refine go_nx rfl ?_)
  first | refine gb_lt (by omega) (by omega) (fun c3 => ?_) (fun c3 => ?_) | refine gb_ge (by omega) (by omega) (fun c3 => ?_) (fun c3 => ?_) | refine gb_gt (by omega) (by omega) (fun c3 => ?_) (fun c3 => ?_) | refine gb_le (by omega) (by omega) (fun c3 => ?_) (fun c3 => ?_) | refine gb_eq (by omega) (by omega) (fun c3 => ?_) (fun c3 => ?_) | refine gb_ne (by omega) (by omega) (fun c3 => ?_) (fun c3 => ?_)
  · rw [decide_eq_false c1, decide_eq_false c2, decide_eq_false c3] at hq
    repeat (first | refine gi_con ?_ | refine gi_bip (Nat.le_of_ble_eq_true rfl) ?_ | refine gi_sip (Nat.le_of_ble_eq_true rfl) ?_ | refine gi_ldc ?_ | refine gi_add ?_ | refine gi_inc rfl ?_ | refine gi_sub (by omega) ?_ | refine gi_mul ?_ | refine go_nx rfl ?_)
    refine go_jp rfl ?_
    refine go_rt rfl ?_
    exact hq
  · refine go_jp rfl ?_
    exact one (Or.inr (Or.inr c3))
def cH (h : mmH) (a c : Nat) : mmH := mm_set h a (.inr (5, [.int (nI c)]))
theorem cH_cH {a c c' : Nat} : mm_set (cH h a c) a (.inr (5, [.int (nI c')])) = cH h a c' := hs_set
theorem sp_count {a c m : Nat} (hc : c ≤ 200) (hm : m ≤ 2) (hq : Q (some (.int (nI (q_cnt c m).1))) (cH h a (c + m))) : mm_Go E d 62 (mm_blk 62 0) [.ref a, .int (nI m)] [] (cH h a c) Q := by
  unfold q_cnt at hq
  repeat (first | refine gi_con ?_ | refine gi_bip (Nat.le_of_ble_eq_true rfl) ?_ | refine gi_sip (Nat.le_of_ble_eq_true rfl) ?_ | refine gi_ldc ?_ | refine gi_add ?_ | refine gi_inc rfl ?_ | refine gi_sub (by omega) ?_ | refine gi_mul ?_ | refine go_nx rfl ?_)
  refine gf_get (.int (nI c)) hs_at (by decide) rfl ?_
  repeat (first | refine gi_con ?_ | refine gi_bip (Nat.le_of_ble_eq_true rfl) ?_ | refine gi_sip (Nat.le_of_ble_eq_true rfl) ?_ | refine gi_ldc ?_ | refine gi_add ?_ | refine gi_inc rfl ?_ | refine gi_sub (by omega) ?_ | refine gi_mul ?_ | refine go_nx rfl ?_)
  refine gc_put (fs' := [.int (nI (c + m))]) hs_at rfl (Nat.le_of_ble_eq_true rfl) rfl rfl ?_
  rw [cH_cH]
  repeat (first | refine gi_con ?_ | refine gi_bip (Nat.le_of_ble_eq_true rfl) ?_ | refine gi_sip (Nat.le_of_ble_eq_true rfl) ?_ | refine gi_ldc ?_ | refine gi_add ?_ | refine gi_inc rfl ?_ | refine gi_sub (by omega) ?_ | refine gi_mul ?_ | refine go_nx rfl ?_)
  refine gf_get (.int (nI (c + m))) hs_at (by decide) rfl ?_
  repeat (first | refine gi_con ?_ | refine gi_bip (Nat.le_of_ble_eq_true rfl) ?_ | refine gi_sip (Nat.le_of_ble_eq_true rfl) ?_ | refine gi_ldc ?_ | refine gi_add ?_ | refine gi_inc rfl ?_ | refine gi_sub (by omega) ?_ | refine gi_mul ?_ | refine go_nx rfl ?_)
  first | refine gb_lt (by omega) (by omega) (fun c1 => ?_) (fun c1 => ?_) | refine gb_ge (by omega) (by omega) (fun c1 => ?_) (fun c1 => ?_) | refine gb_gt (by omega) (by omega) (fun c1 => ?_) (fun c1 => ?_) | refine gb_le (by omega) (by omega) (fun c1 => ?_) (fun c1 => ?_) | refine gb_eq (by omega) (by omega) (fun c1 => ?_) (fun c1 => ?_) | refine gb_ne (by omega) (by omega) (fun c1 => ?_) (fun c1 => ?_)
  · rw [if_neg (by omega)] at hq
    repeat (first | refine gi_con ?_ | refine gi_bip (Nat.le_of_ble_eq_true rfl) ?_ | refine gi_sip (Nat.le_of_ble_eq_true rfl) ?_ | refine gi_ldc ?_ | refine gi_add ?_ | refine gi_inc rfl ?_ | refine gi_sub (by omega) ?_ | refine gi_mul ?_ | refine go_nx rfl ?_)
    refine go_jp rfl ?_
    refine go_rt rfl ?_
    exact hq
  · rw [if_pos c1] at hq
    repeat (first | refine gi_con ?_ | refine gi_bip (Nat.le_of_ble_eq_true rfl) ?_ | refine gi_sip (Nat.le_of_ble_eq_true rfl) ?_ | refine gi_ldc ?_ | refine gi_add ?_ | refine gi_inc rfl ?_ | refine gi_sub (by omega) ?_ | refine gi_mul ?_ | refine go_nx rfl ?_)
    refine go_jp rfl ?_
    refine go_rt rfl ?_
    exact hq
theorem sp_rightv {rw_ : Bool} (hd : 1 ≤ d) (he : nEl h row B N ord lev lim e) (hrow : q_row B n) (hbx : B e = 3 → q_box u B lev (q_val B e) stop rw_ = true) (hst : stop ≤ n) (hkind : B e = 16 ∨ B e = 18 ∨ B e = 8 ∨ B e = 2 ∨ B e = 10 ∨ B e = 3 ∨ B e = 4) (hq : Q (some (.int (q_t (q_good B e (q_word B e))))) h) : mm_Go E d 66 (mm_blk 66 0) [.ref (N e), mm_un] [] h Q := by
  have hB := hrow.2.1 e
  have hw := q_word_le B e
  have hc : h.2.2 (N e) = some (.inr (4, [.ref row, .int (nI (B e)), .int (nI e), .int (nI (q_ne B e)), .int (nI (q_word B e)), .int (nI (q_cls (B e))), .int (q_tf B e), .int (q_tt B e), .long (q_nu B e), q_fi B N e, q_nx B N lim e, .int (nI (ord e))])) := he.1
  have hcl : q_cls (B e) = 2 ↔ B e = 16 ∨ B e = 18 := by
    obtain ⟨v1, v2, v3, v4, v5, v6, v7⟩ := q_cls_val
    rcases hkind with k | k | k | k | k | k | k <;> rw [k] <;> simp [v1, v2, v3, v4, v5, v6, v7]
  have hcb : q_cls (B e) < 100 := by
    unfold q_cls
    repeat' split
    all_goals omega
  have tab : ∀ w, w ≤ 16 → mm_sw 14 7 [1, 1, 14, 14, 14, 14, 4, 7, 10, 13] (nI w) = (if w = 7 ∨ w = 8 then 1 else if w = 13 then 4 else if w = 14 then 7 else if w = 15 then 10 else if w = 16 then 13 else 14) := by
    intro w hw
    have : ∀ w, w < 17 → mm_sw 14 7 [1, 1, 14, 14, 14, 14, 4, 7, 10, 13] (nI w) = (if w = 7 ∨ w = 8 then 1 else if w = 13 then 4 else if w = 14 then 7 else if w = 15 then 10 else if w = 16 then 13 else 14) := by decide +kernel
    exact this w (by omega)
  unfold q_good at hq
  repeat (first | refine gi_con ?_ | refine gi_bip (Nat.le_of_ble_eq_true rfl) ?_ | refine gi_sip (Nat.le_of_ble_eq_true rfl) ?_ | refine gi_ldc ?_ | refine gi_add ?_ | refine gi_inc rfl ?_ | refine gi_sub (by omega) ?_ | refine gi_mul ?_ | refine go_nx rfl ?_)
  refine gf_get _ hc (by decide) rfl ?_
  repeat (first | refine gi_con ?_ | refine gi_bip (Nat.le_of_ble_eq_true rfl) ?_ | refine gi_sip (Nat.le_of_ble_eq_true rfl) ?_ | refine gi_ldc ?_ | refine gi_add ?_ | refine gi_inc rfl ?_ | refine gi_sub (by omega) ?_ | refine gi_mul ?_ | refine go_nx rfl ?_)
  refine gf_get _ hc (by decide) rfl ?_
  refine go_jp rfl ?_
  show mm_Go E d 66 (mm_blk 66 (mm_sw 14 7 [1, 1, 14, 14, 14, 14, 4, 7, 10, 13] (nI (q_word B e)))) _ _ _ _
  rw [tab _ hw]
  by_cases k1 : q_word B e = 7 ∨ q_word B e = 8
  · rw [if_pos k1] at hq ⊢
    repeat (first | refine gi_con ?_ | refine gi_bip (Nat.le_of_ble_eq_true rfl) ?_ | refine gi_sip (Nat.le_of_ble_eq_true rfl) ?_ | refine gi_ldc ?_ | refine gi_add ?_ | refine gi_inc rfl ?_ | refine gi_sub (by omega) ?_ | refine gi_mul ?_ | refine go_nx rfl ?_)
    first | refine gb_lt (by omega) (by omega) (fun c1 => ?_) (fun c1 => ?_) | refine gb_ge (by omega) (by omega) (fun c1 => ?_) (fun c1 => ?_) | refine gb_gt (by omega) (by omega) (fun c1 => ?_) (fun c1 => ?_) | refine gb_le (by omega) (by omega) (fun c1 => ?_) (fun c1 => ?_) | refine gb_eq (by omega) (by omega) (fun c1 => ?_) (fun c1 => ?_) | refine gb_ne (by omega) (by omega) (fun c1 => ?_) (fun c1 => ?_)
    · rw [decide_eq_false c1] at hq
      repeat (first | refine gi_con ?_ | refine gi_bip (Nat.le_of_ble_eq_true rfl) ?_ | refine gi_sip (Nat.le_of_ble_eq_true rfl) ?_ | refine gi_ldc ?_ | refine gi_add ?_ | refine gi_inc rfl ?_ | refine gi_sub (by omega) ?_ | refine gi_mul ?_ | refine go_nx rfl ?_)
      refine go_jp rfl ?_
      refine go_rt rfl ?_
      exact hq
    · rw [decide_eq_true c1] at hq
      repeat (first | refine gi_con ?_ | refine gi_bip (Nat.le_of_ble_eq_true rfl) ?_ | refine gi_sip (Nat.le_of_ble_eq_true rfl) ?_ | refine gi_ldc ?_ | refine gi_add ?_ | refine gi_inc rfl ?_ | refine gi_sub (by omega) ?_ | refine gi_mul ?_ | refine go_nx rfl ?_)
      refine go_jp rfl ?_
      refine go_rt rfl ?_
      exact hq
  rw [if_neg k1] at hq ⊢
  by_cases k2 : q_word B e = 13
  · rw [if_pos k2] at hq ⊢
    repeat (first | refine gi_con ?_ | refine gi_bip (Nat.le_of_ble_eq_true rfl) ?_ | refine gi_sip (Nat.le_of_ble_eq_true rfl) ?_ | refine gi_ldc ?_ | refine gi_add ?_ | refine gi_inc rfl ?_ | refine gi_sub (by omega) ?_ | refine gi_mul ?_ | refine go_nx rfl ?_)
    first | refine gb_lt (by omega) (by omega) (fun c1 => ?_) (fun c1 => ?_) | refine gb_ge (by omega) (by omega) (fun c1 => ?_) (fun c1 => ?_) | refine gb_gt (by omega) (by omega) (fun c1 => ?_) (fun c1 => ?_) | refine gb_le (by omega) (by omega) (fun c1 => ?_) (fun c1 => ?_) | refine gb_eq (by omega) (by omega) (fun c1 => ?_) (fun c1 => ?_) | refine gb_ne (by omega) (by omega) (fun c1 => ?_) (fun c1 => ?_)
    · rw [decide_eq_false c1] at hq
      repeat (first | refine gi_con ?_ | refine gi_bip (Nat.le_of_ble_eq_true rfl) ?_ | refine gi_sip (Nat.le_of_ble_eq_true rfl) ?_ | refine gi_ldc ?_ | refine gi_add ?_ | refine gi_inc rfl ?_ | refine gi_sub (by omega) ?_ | refine gi_mul ?_ | refine go_nx rfl ?_)
      refine go_jp rfl ?_
      refine go_rt rfl ?_
      exact hq
    · rw [decide_eq_true c1] at hq
      repeat (first | refine gi_con ?_ | refine gi_bip (Nat.le_of_ble_eq_true rfl) ?_ | refine gi_sip (Nat.le_of_ble_eq_true rfl) ?_ | refine gi_ldc ?_ | refine gi_add ?_ | refine gi_inc rfl ?_ | refine gi_sub (by omega) ?_ | refine gi_mul ?_ | refine go_nx rfl ?_)
      refine go_jp rfl ?_
      refine go_rt rfl ?_
      exact hq
  rw [if_neg k2] at hq ⊢
  by_cases k3 : q_word B e = 14
  · rw [if_pos k3] at hq ⊢
    repeat (first | refine gi_con ?_ | refine gi_bip (Nat.le_of_ble_eq_true rfl) ?_ | refine gi_sip (Nat.le_of_ble_eq_true rfl) ?_ | refine gi_ldc ?_ | refine gi_add ?_ | refine gi_inc rfl ?_ | refine gi_sub (by omega) ?_ | refine gi_mul ?_ | refine go_nx rfl ?_)
    refine gf_get _ hc (by decide) rfl ?_
    repeat (first | refine gi_con ?_ | refine gi_bip (Nat.le_of_ble_eq_true rfl) ?_ | refine gi_sip (Nat.le_of_ble_eq_true rfl) ?_ | refine gi_ldc ?_ | refine gi_add ?_ | refine gi_inc rfl ?_ | refine gi_sub (by omega) ?_ | refine gi_mul ?_ | refine go_nx rfl ?_)
    first | refine gb_lt (by omega) (by omega) (fun c1 => ?_) (fun c1 => ?_) | refine gb_ge (by omega) (by omega) (fun c1 => ?_) (fun c1 => ?_) | refine gb_gt (by omega) (by omega) (fun c1 => ?_) (fun c1 => ?_) | refine gb_le (by omega) (by omega) (fun c1 => ?_) (fun c1 => ?_) | refine gb_eq (by omega) (by omega) (fun c1 => ?_) (fun c1 => ?_) | refine gb_ne (by omega) (by omega) (fun c1 => ?_) (fun c1 => ?_)
    · rw [decide_eq_false (fun q => c1 (hcl.mpr q)), Bool.false_and] at hq
      repeat (first | refine gi_con ?_ | refine gi_bip (Nat.le_of_ble_eq_true rfl) ?_ | refine gi_sip (Nat.le_of_ble_eq_true rfl) ?_ | refine gi_ldc ?_ | refine gi_add ?_ | refine gi_inc rfl ?_ | refine gi_sub (by omega) ?_ | refine gi_mul ?_ | refine go_nx rfl ?_)
      refine go_jp rfl ?_
      refine go_rt rfl ?_
      exact hq
    · have hk := hcl.mp c1
      rw [decide_eq_true hk, Bool.true_and] at hq
      have hnu : q_nu B e = q_num B (B e) (q_val B e) := if_pos (by omega)
      rw [← hnu] at hq
      repeat (first | refine gi_con ?_ | refine gi_bip (Nat.le_of_ble_eq_true rfl) ?_ | refine gi_sip (Nat.le_of_ble_eq_true rfl) ?_ | refine gi_ldc ?_ | refine gi_add ?_ | refine gi_inc rfl ?_ | refine gi_sub (by omega) ?_ | refine gi_mul ?_ | refine go_nx rfl ?_)
      refine gf_get _ hc (by decide) rfl ?_
      repeat (first | refine gi_con ?_ | refine gi_bip (Nat.le_of_ble_eq_true rfl) ?_ | refine gi_sip (Nat.le_of_ble_eq_true rfl) ?_ | refine gi_ldc ?_ | refine gi_add ?_ | refine gi_inc rfl ?_ | refine gi_sub (by omega) ?_ | refine gi_mul ?_ | refine go_nx rfl ?_)
      refine gl_lt (fun c2 => ?_) (fun c2 => ?_)
      · rw [decide_eq_false (show ¬ 0 ≤ q_nu B e from Int64.not_le.mpr c2)] at hq
        repeat (first | refine gi_con ?_ | refine gi_bip (Nat.le_of_ble_eq_true rfl) ?_ | refine gi_sip (Nat.le_of_ble_eq_true rfl) ?_ | refine gi_ldc ?_ | refine gi_add ?_ | refine gi_inc rfl ?_ | refine gi_sub (by omega) ?_ | refine gi_mul ?_ | refine go_nx rfl ?_)
        refine go_jp rfl ?_
        refine go_rt rfl ?_
        exact hq
      · rw [decide_eq_true (show 0 ≤ q_nu B e from c2)] at hq
        repeat (first | refine gi_con ?_ | refine gi_bip (Nat.le_of_ble_eq_true rfl) ?_ | refine gi_sip (Nat.le_of_ble_eq_true rfl) ?_ | refine gi_ldc ?_ | refine gi_add ?_ | refine gi_inc rfl ?_ | refine gi_sub (by omega) ?_ | refine gi_mul ?_ | refine go_nx rfl ?_)
        refine go_jp rfl ?_
        refine go_rt rfl ?_
        exact hq
  rw [if_neg k3] at hq ⊢
  by_cases k4 : q_word B e = 15
  · rw [if_pos k4] at hq ⊢
    repeat (first | refine gi_con ?_ | refine gi_bip (Nat.le_of_ble_eq_true rfl) ?_ | refine gi_sip (Nat.le_of_ble_eq_true rfl) ?_ | refine gi_ldc ?_ | refine gi_add ?_ | refine gi_inc rfl ?_ | refine gi_sub (by omega) ?_ | refine gi_mul ?_ | refine go_nx rfl ?_)
    first | refine gb_lt (by omega) (by omega) (fun c1 => ?_) (fun c1 => ?_) | refine gb_ge (by omega) (by omega) (fun c1 => ?_) (fun c1 => ?_) | refine gb_gt (by omega) (by omega) (fun c1 => ?_) (fun c1 => ?_) | refine gb_le (by omega) (by omega) (fun c1 => ?_) (fun c1 => ?_) | refine gb_eq (by omega) (by omega) (fun c1 => ?_) (fun c1 => ?_) | refine gb_ne (by omega) (by omega) (fun c1 => ?_) (fun c1 => ?_)
    · rw [decide_eq_false c1] at hq
      repeat (first | refine gi_con ?_ | refine gi_bip (Nat.le_of_ble_eq_true rfl) ?_ | refine gi_sip (Nat.le_of_ble_eq_true rfl) ?_ | refine gi_ldc ?_ | refine gi_add ?_ | refine gi_inc rfl ?_ | refine gi_sub (by omega) ?_ | refine gi_mul ?_ | refine go_nx rfl ?_)
      refine go_jp rfl ?_
      refine go_rt rfl ?_
      exact hq
    · rw [decide_eq_true c1] at hq
      repeat (first | refine gi_con ?_ | refine gi_bip (Nat.le_of_ble_eq_true rfl) ?_ | refine gi_sip (Nat.le_of_ble_eq_true rfl) ?_ | refine gi_ldc ?_ | refine gi_add ?_ | refine gi_inc rfl ?_ | refine gi_sub (by omega) ?_ | refine gi_mul ?_ | refine go_nx rfl ?_)
      refine go_jp rfl ?_
      refine go_rt rfl ?_
      exact hq
  rw [if_neg k4] at hq ⊢
  by_cases k5 : q_word B e = 16
  · rw [if_pos k5] at hq ⊢
    repeat (first | refine gi_con ?_ | refine gi_bip (Nat.le_of_ble_eq_true rfl) ?_ | refine gi_sip (Nat.le_of_ble_eq_true rfl) ?_ | refine gi_ldc ?_ | refine gi_add ?_ | refine gi_inc rfl ?_ | refine gi_sub (by omega) ?_ | refine gi_mul ?_ | refine go_nx rfl ?_)
    refine go_step ?_
    refine g_callV (by decide) (by decide) (Nat.le_of_ble_eq_true rfl) (Nat.le_of_ble_eq_true rfl) (o_rcv hc rfl (by decide)) (by omega) (Nat.le_of_ble_eq_true rfl) rfl ?_
    refine sp_iscond he hrow hbx hst ?_
    exact go_rtB rfl hq
  rw [if_neg k5] at hq ⊢
  repeat (first | refine gi_con ?_ | refine gi_bip (Nat.le_of_ble_eq_true rfl) ?_ | refine gi_sip (Nat.le_of_ble_eq_true rfl) ?_ | refine gi_ldc ?_ | refine gi_add ?_ | refine gi_inc rfl ?_ | refine gi_sub (by omega) ?_ | refine gi_mul ?_ | refine go_nx rfl ?_)
  refine go_rt rfl ?_
  exact hq
theorem sp_ofitem {rw_ : Bool} (hd : 1 ≤ d) (he : nEl h row B N ord lev lim e) (hrow : q_row B n) (hbx : B e = 3 ∨ B e = 4 → q_box u B lev (q_val B e) stop rw_ = true) (hst : stop ≤ n) (hq : Q (some (.int (q_t (q_ofi B e)))) h) : mm_Go E d 67 (mm_blk 67 0) [.ref (N e)] [] h Q := by
  have hc : h.2.2 (N e) = some (.inr (4, [.ref row, .int (nI (B e)), .int (nI e), .int (nI (q_ne B e)), .int (nI (q_word B e)), .int (nI (q_cls (B e))), .int (q_tf B e), .int (q_tt B e), .long (q_nu B e), q_fi B N e, q_nx B N lim e, .int (nI (ord e))])) := he.1
  have one : q_ofi B e = false → mm_Go E d 67 (mm_blk 67 1) [.ref (N e)] [] h Q := by
    intro e1
    rw [e1] at hq
    repeat (first | refine gi_con ?_ | refine gi_bip (Nat.le_of_ble_eq_true rfl) ?_ | refine gi_sip (Nat.le_of_ble_eq_true rfl) ?_ | refine gi_ldc ?_ | refine gi_add ?_ | refine gi_inc rfl ?_ | refine gi_sub (by omega) ?_ | refine gi_mul ?_ | refine go_nx rfl ?_)
    refine go_jp rfl ?_
    refine go_rt rfl ?_
    exact hq
  repeat (first | refine gi_con ?_ | refine gi_bip (Nat.le_of_ble_eq_true rfl) ?_ | refine gi_sip (Nat.le_of_ble_eq_true rfl) ?_ | refine gi_ldc ?_ | refine gi_add ?_ | refine gi_inc rfl ?_ | refine gi_sub (by omega) ?_ | refine gi_mul ?_ | refine go_nx rfl ?_)
  refine gf_get _ hc (by decide) rfl ?_
  by_cases hk : (B e = 3 ∨ B e = 4) ∧ q_val B e + 4 < q_last B (q_val B e)
  · have hf := nEl_first he (hbx hk.1) hk.1 hk.2
    have hf' : h.2.2 (N (q_val B e + 4)) = some (.inr (4, [.ref row, .int (nI (B (q_val B e + 4))), .int (nI (q_val B e + 4)), .int (nI (q_ne B (q_val B e + 4))), .int (nI (q_word B (q_val B e + 4))), .int (nI (q_cls (B (q_val B e + 4)))), .int (q_tf B (q_val B e + 4)), .int (q_tt B (q_val B e + 4)), .long (q_nu B (q_val B e + 4)), q_fi B N (q_val B e + 4), q_nx B N (q_last B (q_val B e)) (q_val B e + 4), .int (nI (ord (q_val B e + 4)))])) := hf.1
    rw [q_fi_1 hk.1 hk.2] at hc ⊢
    refine gn_nR ?_
    repeat (first | refine gi_con ?_ | refine gi_bip (Nat.le_of_ble_eq_true rfl) ?_ | refine gi_sip (Nat.le_of_ble_eq_true rfl) ?_ | refine gi_ldc ?_ | refine gi_add ?_ | refine gi_inc rfl ?_ | refine gi_sub (by omega) ?_ | refine gi_mul ?_ | refine go_nx rfl ?_)
    refine go_step ?_
    refine g_callV (by decide) (by decide) (Nat.le_of_ble_eq_true rfl) (Nat.le_of_ble_eq_true rfl) (o_rcv hc rfl (by decide)) (by omega) (Nat.le_of_ble_eq_true rfl) rfl ?_
    refine sp_iscond he hrow (fun q => hbx (Or.inl q)) hst ?_
    refine gt_eq (fun c1 => ?_) (fun c1 => ?_)
    · refine one ?_
      unfold q_ofi
      rw [c1]
      rfl
    repeat (first | refine gi_con ?_ | refine gi_bip (Nat.le_of_ble_eq_true rfl) ?_ | refine gi_sip (Nat.le_of_ble_eq_true rfl) ?_ | refine gi_ldc ?_ | refine gi_add ?_ | refine gi_inc rfl ?_ | refine gi_sub (by omega) ?_ | refine gi_mul ?_ | refine go_nx rfl ?_)
    refine gf_get _ hc (by decide) rfl ?_
    repeat (first | refine gi_con ?_ | refine gi_bip (Nat.le_of_ble_eq_true rfl) ?_ | refine gi_sip (Nat.le_of_ble_eq_true rfl) ?_ | refine gi_ldc ?_ | refine gi_add ?_ | refine gi_inc rfl ?_ | refine gi_sub (by omega) ?_ | refine gi_mul ?_ | refine go_nx rfl ?_)
    refine go_step ?_
    refine g_callV (by decide) (by decide) (Nat.le_of_ble_eq_true rfl) (Nat.le_of_ble_eq_true rfl) (o_rcv hf' rfl (by decide)) (by omega) (Nat.le_of_ble_eq_true rfl) rfl ?_
    refine sp_joins hf' rfl ?_
    refine gt_ne (fun c2 => ?_) (fun c2 => ?_)
    · refine one ?_
      unfold q_ofi
      rw [c2, Bool.not_true, Bool.and_false]
    · have e1 : q_ofi B e = true := by
        unfold q_ofi
        rw [c1, c2]
        rfl
      rw [e1] at hq
      repeat (first | refine gi_con ?_ | refine gi_bip (Nat.le_of_ble_eq_true rfl) ?_ | refine gi_sip (Nat.le_of_ble_eq_true rfl) ?_ | refine gi_ldc ?_ | refine gi_add ?_ | refine gi_inc rfl ?_ | refine gi_sub (by omega) ?_ | refine gi_mul ?_ | refine go_nx rfl ?_)
      refine go_jp rfl ?_
      refine go_rt rfl ?_
      exact hq
  · have e0 : q_fi B N e = .null := if_neg hk
    rw [e0]
    refine gn_nN ?_
    refine one ?_
    unfold q_ofi q_cond
    by_cases h3 : B e = 3
    · have hbl := q_box_le (hbx (Or.inl h3))
      have : ¬ 5 < q_sz B (q_val B e) := fun q => hk ⟨Or.inl h3, by unfold q_last; omega⟩
      rw [decide_eq_false this, Bool.false_and, Bool.and_false]
      rfl
    · rw [decide_eq_false h3]
      rfl
end C
