/-! THE CLASS: index -/
theorem gc_n1 {E : mmE} {d m pc idx : Nat} {is : List mmI} {L S : List Value} {h : mmH} {Q : Option Value → mmH → Prop} {ex : List Nat} (h0 : mm_k0 ex = 1) (hg : mm_Go E d m is L (.ref h.1 :: S) (mm_new h 5 (.inr (1, [.int 0, .null, .int 0, .null, .null]))) Q) : mm_Go E d m ((pc, .new idx, ex) :: is) L S h Q := gc_new0 h0 hg
theorem q_bits : ∀ how, how < 16 → (nI how &&& nI 1 = 0 ↔ q_bit how 1 = false) ∧ (nI how &&& nI 2 = 0 ↔ q_bit how 2 = false) ∧ (nI how &&& nI 4 = 0 ↔ q_bit how 4 = false) ∧ (nI how &&& nI 8 = 0 ↔ q_bit how 8 = false) ∧ (nI how &&& nI 10 = 0 ↔ (q_bit how 2 || q_bit how 8) = false) := by decide +kernel
section C
variable {E : mmE} {d : Nat} {h : mmH} {Q : Option Value → mmH → Prop} {B N O : Nat → Nat} {row : Nat} {own : Nat → Nat} {ta o : Nat} {t : qB} {F V : Option qB} {X : Nat → Option qX} {pa : Nat} {pl hl : Value} {f : Nat → Int32} {g : Nat → Option Nat}
theorem sp_pinit {a nm : Nat} {p : qP} (ha : h.2.2 a = some (.inr (1, [.int 0, .null, .int 0, .null, .null]))) (hq : Q none (mm_set h a (pCell p nm .null .null))) : mm_Go E d 16 (mm_blk 16 0) [.ref a, .ref nm, .int (q_t p.2.2), .int (q_t p.2.1)] [] h Q := by
  repeat (first | refine gc_n3 rfl ?_ | refine gc_n6 rfl ?_ | refine gc_n7 rfl ?_ | refine gc_n8 rfl ?_ | refine gc_n9 rfl ?_ | refine gc_n2 rfl ?_ | refine gc_n5 rfl ?_ | refine gc_n1 rfl ?_ | refine gi_con ?_ | refine gi_bip (Nat.le_of_ble_eq_true rfl) ?_ | refine gi_sip (Nat.le_of_ble_eq_true rfl) ?_ | refine gi_ldc ?_ | refine gi_add ?_ | refine gi_inc rfl ?_ | refine gi_sub (by omega) ?_ | refine gi_mul ?_ | refine go_nx rfl ?_)
  refine gc_put (fs' := [.int 0, .ref nm, .int 0, .null, .null]) ha rfl (Nat.le_of_ble_eq_true rfl) rfl rfl ?_
  repeat (first | refine gc_n3 rfl ?_ | refine gc_n6 rfl ?_ | refine gc_n7 rfl ?_ | refine gc_n8 rfl ?_ | refine gc_n9 rfl ?_ | refine gc_n2 rfl ?_ | refine gc_n5 rfl ?_ | refine gc_n1 rfl ?_ | refine gi_con ?_ | refine gi_bip (Nat.le_of_ble_eq_true rfl) ?_ | refine gi_sip (Nat.le_of_ble_eq_true rfl) ?_ | refine gi_ldc ?_ | refine gi_add ?_ | refine gi_inc rfl ?_ | refine gi_sub (by omega) ?_ | refine gi_mul ?_ | refine go_nx rfl ?_)
  refine gc_put (fs' := [.int (q_t p.2.2), .ref nm, .int 0, .null, .null]) hs_at rfl (Nat.le_of_ble_eq_true rfl) (fit_t _) rfl ?_
  rw [hs_set]
  repeat (first | refine gc_n3 rfl ?_ | refine gc_n6 rfl ?_ | refine gc_n7 rfl ?_ | refine gc_n8 rfl ?_ | refine gc_n9 rfl ?_ | refine gc_n2 rfl ?_ | refine gc_n5 rfl ?_ | refine gc_n1 rfl ?_ | refine gi_con ?_ | refine gi_bip (Nat.le_of_ble_eq_true rfl) ?_ | refine gi_sip (Nat.le_of_ble_eq_true rfl) ?_ | refine gi_ldc ?_ | refine gi_add ?_ | refine gi_inc rfl ?_ | refine gi_sub (by omega) ?_ | refine gi_mul ?_ | refine go_nx rfl ?_)
  refine gc_put (fs' := [.int (q_t p.2.2), .ref nm, .int (q_t p.2.1), .null, .null]) hs_at rfl (Nat.le_of_ble_eq_true rfl) (fit_t _) rfl ?_
  rw [hs_set]
  refine go_rt rfl ?_
  exact hq
theorem row_of2 {a s k : Nat} {gg : Nat → Int32} (hk : k ≤ 2000) (ha : h.2.2 a = some (.inl (0, k, .inl gg))) (hg : ∀ j, j < k → gg j = sb_b (t.2 (s + j)) ∧ t.2 (s + j) < 256) : bRow h a k (q_sub t.2 s k) := by
  refine ⟨hk, ⟨gg, ha, fun j hj => ?_⟩, fun j => ?_, fun j hj => ?_⟩
  · unfold q_sub
    rw [if_pos hj, (hg j hj).1]
    exact sb_255 _ (hg j hj).2
  · unfold q_sub
    split
    · rename_i hj
      exact (hg j hj).2
    · decide
  · unfold q_sub
    rw [if_neg (by omega)]
theorem sp_cindex {i n m how : Int32} (hd : 6 ≤ d) (hI : cIx E h own o t F V X ta pa pl hl f g N O row B) (hq : ∀ h', cInv E h' own o (s_indexT t i n m how) F V (s_indexX t X i n m how) → kFr h h' own own ta → h'.1 + 36 * (s_indexT t i n m how).1 ≤ h.1 + 36 * t.1 + 20 → h'.2.1 + 560 * (s_indexT t i n m how).1 ≤ h.2.1 + 560 * t.1 + 300 → h.2.1 ≤ h'.2.1 → Q (some (.int (a_index t i n m how))) h') : mm_Go E d 3 (mm_blk 3 0) [.ref o, .int i, .int n, .int m, .int how, mm_un, mm_un, mm_un] [] h Q := by
  have hI0 := hI
  obtain ⟨⟨c1, c2⟩, i2, i3, i4, i5, i6, i7, i8, i9, i10⟩ := hI
  have ht2 := i3.1
  have hto : ta ≠ o := fun q => by rw [q, c1] at c2; cases c2
  have hpo : pa ≠ o := fun q => by rw [q, c1] at i4; cases i4
  have hpt : pa ≠ ta := fun q => by rw [q, c2] at i4; cases i4
  have hol := hOk_lt i2.1 c1
  have htl := hOk_lt i2.1 c2
  have hpl := hOk_lt i2.1 i4
  have bad : q_ibad t i n m how → Q (some (.int (-1))) h := by
    intro hb
    obtain ⟨e1, e2, e3⟩ := a_index_bad (X := X) hb
    rw [e1, e2, e3] at hq
    exact hq h ⟨_, _, _, _, _, _, _, _, _, _, hI0⟩ (kFr_r _ _ _) (by omega) (by omega) (Nat.le_refl _)
  have one : q_ibad t i n m how → mm_Go E d 3 (mm_blk 3 1) [.ref o, .int i, .int n, .int m, .int how, mm_un, mm_un, mm_un] [] h Q := by
    intro hb
    repeat (first | refine gc_n3 rfl ?_ | refine gc_n6 rfl ?_ | refine gc_n7 rfl ?_ | refine gc_n8 rfl ?_ | refine gc_n9 rfl ?_ | refine gc_n2 rfl ?_ | refine gc_n5 rfl ?_ | refine gc_n1 rfl ?_ | refine gi_con ?_ | refine gi_bip (Nat.le_of_ble_eq_true rfl) ?_ | refine gi_sip (Nat.le_of_ble_eq_true rfl) ?_ | refine gi_ldc ?_ | refine gi_add ?_ | refine gi_inc rfl ?_ | refine gi_sub (by omega) ?_ | refine gi_mul ?_ | refine go_nx rfl ?_)
    refine go_rt rfl ?_
    exact bad hb
  have three : q_ibad t i n m how → mm_Go E d 3 (mm_blk 3 3) [.ref o, .int i, .int n, .int m, .int how, mm_un, mm_un, mm_un] [] h Q := by
    intro hb
    repeat (first | refine gc_n3 rfl ?_ | refine gc_n6 rfl ?_ | refine gc_n7 rfl ?_ | refine gc_n8 rfl ?_ | refine gc_n9 rfl ?_ | refine gc_n2 rfl ?_ | refine gc_n5 rfl ?_ | refine gc_n1 rfl ?_ | refine gi_con ?_ | refine gi_bip (Nat.le_of_ble_eq_true rfl) ?_ | refine gi_sip (Nat.le_of_ble_eq_true rfl) ?_ | refine gi_ldc ?_ | refine gi_add ?_ | refine gi_inc rfl ?_ | refine gi_sub (by omega) ?_ | refine gi_mul ?_ | refine go_nx rfl ?_)
    refine go_rt rfl ?_
    exact bad hb
  have eight7 : nI 7 < nI 8 := by decide
  repeat (first | refine gc_n3 rfl ?_ | refine gc_n6 rfl ?_ | refine gc_n7 rfl ?_ | refine gc_n8 rfl ?_ | refine gc_n9 rfl ?_ | refine gc_n2 rfl ?_ | refine gc_n5 rfl ?_ | refine gc_n1 rfl ?_ | refine gi_con ?_ | refine gi_bip (Nat.le_of_ble_eq_true rfl) ?_ | refine gi_sip (Nat.le_of_ble_eq_true rfl) ?_ | refine gi_ldc ?_ | refine gi_add ?_ | refine gi_inc rfl ?_ | refine gi_sub (by omega) ?_ | refine gi_mul ?_ | refine go_nx rfl ?_)
  refine gx_lt (fun d1 => one (Or.inl d1)) (fun d1 => ?_)
  repeat (first | refine gc_n3 rfl ?_ | refine gc_n6 rfl ?_ | refine gc_n7 rfl ?_ | refine gc_n8 rfl ?_ | refine gc_n9 rfl ?_ | refine gc_n2 rfl ?_ | refine gc_n5 rfl ?_ | refine gc_n1 rfl ?_ | refine gi_con ?_ | refine gi_bip (Nat.le_of_ble_eq_true rfl) ?_ | refine gi_sip (Nat.le_of_ble_eq_true rfl) ?_ | refine gi_ldc ?_ | refine gi_add ?_ | refine gi_inc rfl ?_ | refine gi_sub (by omega) ?_ | refine gi_mul ?_ | refine go_nx rfl ?_)
  refine gy_ge (fun d2 => one (Or.inr (Or.inl (Int32.lt_of_lt_of_le eight7 d2)))) (fun d2 => ?_)
  repeat (first | refine gc_n3 rfl ?_ | refine gc_n6 rfl ?_ | refine gc_n7 rfl ?_ | refine gc_n8 rfl ?_ | refine gc_n9 rfl ?_ | refine gc_n2 rfl ?_ | refine gc_n5 rfl ?_ | refine gc_n1 rfl ?_ | refine gi_con ?_ | refine gi_bip (Nat.le_of_ble_eq_true rfl) ?_ | refine gi_sip (Nat.le_of_ble_eq_true rfl) ?_ | refine gi_ldc ?_ | refine gi_add ?_ | refine gi_inc rfl ?_ | refine gi_sub (by omega) ?_ | refine gi_mul ?_ | refine go_nx rfl ?_)
  refine gy_lt (fun d3 => one (Or.inr (Or.inr (Or.inl d3)))) (fun d3 => ?_)
  repeat (first | refine gc_n3 rfl ?_ | refine gc_n6 rfl ?_ | refine gc_n7 rfl ?_ | refine gc_n8 rfl ?_ | refine gc_n9 rfl ?_ | refine gc_n2 rfl ?_ | refine gc_n5 rfl ?_ | refine gc_n1 rfl ?_ | refine gi_con ?_ | refine gi_bip (Nat.le_of_ble_eq_true rfl) ?_ | refine gi_sip (Nat.le_of_ble_eq_true rfl) ?_ | refine gi_ldc ?_ | refine gi_add ?_ | refine gi_inc rfl ?_ | refine gi_sub (by omega) ?_ | refine gi_mul ?_ | refine go_nx rfl ?_)
  refine gx_lt (fun d4 => one (Or.inr (Or.inr (Or.inr (Or.inl d4))))) (fun d4 => ?_)
  repeat (first | refine gc_n3 rfl ?_ | refine gc_n6 rfl ?_ | refine gc_n7 rfl ?_ | refine gc_n8 rfl ?_ | refine gc_n9 rfl ?_ | refine gc_n2 rfl ?_ | refine gc_n5 rfl ?_ | refine gc_n1 rfl ?_ | refine gi_con ?_ | refine gi_bip (Nat.le_of_ble_eq_true rfl) ?_ | refine gi_sip (Nat.le_of_ble_eq_true rfl) ?_ | refine gi_ldc ?_ | refine gi_add ?_ | refine gi_inc rfl ?_ | refine gi_sub (by omega) ?_ | refine gi_mul ?_ | refine go_nx rfl ?_)
  refine gx_lt (fun d5 => one (Or.inr (Or.inr (Or.inr (Or.inr (Or.inr (Or.inl d5))))))) (fun d5 => ?_)
  repeat (first | refine gc_n3 rfl ?_ | refine gc_n6 rfl ?_ | refine gc_n7 rfl ?_ | refine gc_n8 rfl ?_ | refine gc_n9 rfl ?_ | refine gc_n2 rfl ?_ | refine gc_n5 rfl ?_ | refine gc_n1 rfl ?_ | refine gi_con ?_ | refine gi_bip (Nat.le_of_ble_eq_true rfl) ?_ | refine gi_sip (Nat.le_of_ble_eq_true rfl) ?_ | refine gi_ldc ?_ | refine gi_add ?_ | refine gi_inc rfl ?_ | refine gi_sub (by omega) ?_ | refine gi_mul ?_ | refine go_nx rfl ?_)
  refine gy_le (fun d6 => ?_) (fun d6 => ?_)
  rotate_left
  · repeat (first | refine gc_n3 rfl ?_ | refine gc_n6 rfl ?_ | refine gc_n7 rfl ?_ | refine gc_n8 rfl ?_ | refine gc_n9 rfl ?_ | refine gc_n2 rfl ?_ | refine gc_n5 rfl ?_ | refine gc_n1 rfl ?_ | refine gi_con ?_ | refine gi_bip (Nat.le_of_ble_eq_true rfl) ?_ | refine gi_sip (Nat.le_of_ble_eq_true rfl) ?_ | refine gi_ldc ?_ | refine gi_add ?_ | refine gi_inc rfl ?_ | refine gi_sub (by omega) ?_ | refine gi_mul ?_ | refine go_nx rfl ?_)
    refine go_jp rfl ?_
    exact one (Or.inr (Or.inr (Or.inr (Or.inr (Or.inr (Or.inr (Int32.not_le.mp d6)))))))
  obtain ⟨ik, hik, rfl⟩ := i_lt0 d1 d2
  have hn0 : ¬ n < 0 := fun q => d3 (Int32.lt_trans q (by decide))
  obtain ⟨nk, hnk, rfl⟩ := nI_of hn0
  obtain ⟨mk, hmk, rfl⟩ := nI_of d4
  have hn1 : 1 ≤ nk := by
    by_cases hh : 1 ≤ nk
    · exact hh
    · exact absurd (show nI nk < nI 1 from nI_lt (by omega) (by decide)) d3
  obtain ⟨hk, hhk, rfl⟩ : ∃ k, k < 16 ∧ how = nI k := by
    rcases pk_ix how (n := 16) (by decide) with q | q | ⟨j, hj, rfl⟩
    · exact absurd q d5
    · exfalso
      have h3 : nI 15 < nI 16 := by decide
      exact Int32.not_le.mpr (Int32.lt_of_lt_of_le h3 q) d6
    · exact ⟨j, hj, rfl⟩
  have big : t.1 < nk + mk → q_ibad t (nI ik) (nI nk) (nI mk) (nI hk) := by
    intro q
    refine Or.inr (Or.inr (Or.inr (Or.inr (Or.inl ?_))))
    rw [nI_toInt hnk, nI_toInt hmk]
    omega
  repeat (first | refine gc_n3 rfl ?_ | refine gc_n6 rfl ?_ | refine gc_n7 rfl ?_ | refine gc_n8 rfl ?_ | refine gc_n9 rfl ?_ | refine gc_n2 rfl ?_ | refine gc_n5 rfl ?_ | refine gc_n1 rfl ?_ | refine gi_con ?_ | refine gi_bip (Nat.le_of_ble_eq_true rfl) ?_ | refine gi_sip (Nat.le_of_ble_eq_true rfl) ?_ | refine gi_ldc ?_ | refine gi_add ?_ | refine gi_inc rfl ?_ | refine gi_sub (by omega) ?_ | refine gi_mul ?_ | refine go_nx rfl ?_)
  refine gf_get _ c1 (by decide) rfl ?_
  first | refine gb_lt (by omega) (by omega) (fun d7 => ?_) (fun d7 => ?_) | refine gb_ge (by omega) (by omega) (fun d7 => ?_) (fun d7 => ?_) | refine gb_gt (by omega) (by omega) (fun d7 => ?_) (fun d7 => ?_) | refine gb_le (by omega) (by omega) (fun d7 => ?_) (fun d7 => ?_) | refine gb_eq (by omega) (by omega) (fun d7 => ?_) (fun d7 => ?_) | refine gb_ne (by omega) (by omega) (fun d7 => ?_) (fun d7 => ?_)
  · exact three (big (by omega))
  repeat (first | refine gc_n3 rfl ?_ | refine gc_n6 rfl ?_ | refine gc_n7 rfl ?_ | refine gc_n8 rfl ?_ | refine gc_n9 rfl ?_ | refine gc_n2 rfl ?_ | refine gc_n5 rfl ?_ | refine gc_n1 rfl ?_ | refine gi_con ?_ | refine gi_bip (Nat.le_of_ble_eq_true rfl) ?_ | refine gi_sip (Nat.le_of_ble_eq_true rfl) ?_ | refine gi_ldc ?_ | refine gi_add ?_ | refine gi_inc rfl ?_ | refine gi_sub (by omega) ?_ | refine gi_mul ?_ | refine go_nx rfl ?_)
  refine gf_get _ c1 (by decide) rfl ?_
  repeat (first | refine gc_n3 rfl ?_ | refine gc_n6 rfl ?_ | refine gc_n7 rfl ?_ | refine gc_n8 rfl ?_ | refine gc_n9 rfl ?_ | refine gc_n2 rfl ?_ | refine gc_n5 rfl ?_ | refine gc_n1 rfl ?_ | refine gi_con ?_ | refine gi_bip (Nat.le_of_ble_eq_true rfl) ?_ | refine gi_sip (Nat.le_of_ble_eq_true rfl) ?_ | refine gi_ldc ?_ | refine gi_add ?_ | refine gi_inc rfl ?_ | refine gi_sub (by omega) ?_ | refine gi_mul ?_ | refine go_nx rfl ?_)
  first | refine gb_lt (by omega) (by omega) (fun d8 => ?_) (fun d8 => ?_) | refine gb_ge (by omega) (by omega) (fun d8 => ?_) (fun d8 => ?_) | refine gb_gt (by omega) (by omega) (fun d8 => ?_) (fun d8 => ?_) | refine gb_le (by omega) (by omega) (fun d8 => ?_) (fun d8 => ?_) | refine gb_eq (by omega) (by omega) (fun d8 => ?_) (fun d8 => ?_) | refine gb_ne (by omega) (by omega) (fun d8 => ?_) (fun d8 => ?_)
  rotate_left
  · repeat (first | refine gc_n3 rfl ?_ | refine gc_n6 rfl ?_ | refine gc_n7 rfl ?_ | refine gc_n8 rfl ?_ | refine gc_n9 rfl ?_ | refine gc_n2 rfl ?_ | refine gc_n5 rfl ?_ | refine gc_n1 rfl ?_ | refine gi_con ?_ | refine gi_bip (Nat.le_of_ble_eq_true rfl) ?_ | refine gi_sip (Nat.le_of_ble_eq_true rfl) ?_ | refine gi_ldc ?_ | refine gi_add ?_ | refine gi_inc rfl ?_ | refine gi_sub (by omega) ?_ | refine gi_mul ?_ | refine go_nx rfl ?_)
    refine go_jp rfl ?_
    exact three (big (by omega))
  have hsum : nk + mk ≤ t.1 := by omega
  clear one three bad big
  obtain ⟨e1, e2, e3⟩ := a_index_good (X := X) hik hn1 hsum ht2 hhk
  rw [e1, e2, e3] at hq
  clear e1 e2 e3
  obtain ⟨b1, b2, b4, b8, b10⟩ := q_bits hk hhk
  have htb := fun j (hj : j < t.1) => i3.2 j hj
  repeat (first | refine gc_n3 rfl ?_ | refine gc_n6 rfl ?_ | refine gc_n7 rfl ?_ | refine gc_n8 rfl ?_ | refine gc_n9 rfl ?_ | refine gc_n2 rfl ?_ | refine gc_n5 rfl ?_ | refine gc_n1 rfl ?_ | refine gi_con ?_ | refine gi_bip (Nat.le_of_ble_eq_true rfl) ?_ | refine gi_sip (Nat.le_of_ble_eq_true rfl) ?_ | refine gi_ldc ?_ | refine gi_add ?_ | refine gi_inc rfl ?_ | refine gi_sub (by omega) ?_ | refine gi_mul ?_ | refine go_nx rfl ?_)
  refine gf_get _ c1 (by decide) rfl ?_
  repeat (first | refine gc_n3 rfl ?_ | refine gc_n6 rfl ?_ | refine gc_n7 rfl ?_ | refine gc_n8 rfl ?_ | refine gc_n9 rfl ?_ | refine gc_n2 rfl ?_ | refine gc_n5 rfl ?_ | refine gc_n1 rfl ?_ | refine gi_con ?_ | refine gi_bip (Nat.le_of_ble_eq_true rfl) ?_ | refine gi_sip (Nat.le_of_ble_eq_true rfl) ?_ | refine gi_ldc ?_ | refine gi_add ?_ | refine gi_inc rfl ?_ | refine gi_sub (by omega) ?_ | refine gi_mul ?_ | refine go_nx rfl ?_)
  refine go_step ?_
  refine g_call (k := 4) rfl (by omega) (Nat.le_of_ble_eq_true rfl) rfl ?_
  refine sp_copyRange (fr := 0) (to := nk) (by omega) i2.1 c2 (Nat.zero_le _) (by omega) (fun g1 hg1 => ?_)
  rw [Nat.sub_zero] at hg1 ⊢
  have wA := wOk_new (n := nk) (c := .inl (0, nk, .inl g1)) i2
  have kA : ∀ b, b < h.1 → (mm_new h nk (.inl (0, nk, .inl g1))).2.2 b = h.2.2 b := fun b hb => hn_ne (by omega)
  have rA : (mm_new h nk (.inl (0, nk, .inl g1))).2.2 h.1 = some (.inl (0, nk, .inl g1)) := hn_at
  have sA : (mm_new h nk (.inl (0, nk, .inl g1))).1 = h.1 + 1 := rfl
  have tA : (mm_new h nk (.inl (0, nk, .inl g1))).2.1 = h.2.1 + nk := rfl
  generalize mm_new h nk (.inl (0, nk, .inl g1)) = hA at wA kA rA sA tA ⊢
  repeat (first | refine gc_n3 rfl ?_ | refine gc_n6 rfl ?_ | refine gc_n7 rfl ?_ | refine gc_n8 rfl ?_ | refine gc_n9 rfl ?_ | refine gc_n2 rfl ?_ | refine gc_n5 rfl ?_ | refine gc_n1 rfl ?_ | refine gi_con ?_ | refine gi_bip (Nat.le_of_ble_eq_true rfl) ?_ | refine gi_sip (Nat.le_of_ble_eq_true rfl) ?_ | refine gi_ldc ?_ | refine gi_add ?_ | refine gi_inc rfl ?_ | refine gi_sub (by omega) ?_ | refine gi_mul ?_ | refine go_nx rfl ?_)
  refine gf_get _ ((kA o hol).trans c1) (by decide) rfl ?_
  repeat (first | refine gc_n3 rfl ?_ | refine gc_n6 rfl ?_ | refine gc_n7 rfl ?_ | refine gc_n8 rfl ?_ | refine gc_n9 rfl ?_ | refine gc_n2 rfl ?_ | refine gc_n5 rfl ?_ | refine gc_n1 rfl ?_ | refine gi_con ?_ | refine gi_bip (Nat.le_of_ble_eq_true rfl) ?_ | refine gi_sip (Nat.le_of_ble_eq_true rfl) ?_ | refine gi_ldc ?_ | refine gi_add ?_ | refine gi_inc rfl ?_ | refine gi_sub (by omega) ?_ | refine gi_mul ?_ | refine go_nx rfl ?_)
  refine go_step ?_
  refine g_call (k := 4) rfl (by omega) (Nat.le_of_ble_eq_true rfl) rfl ?_
  refine sp_copyRange (fr := nk) (to := nk + mk) (by omega) wA.1 ((kA ta htl).trans c2) (by omega) (by omega) (fun g2 hg2 => ?_)
  rw [Nat.add_sub_cancel_left] at hg2 ⊢
  have wB := wOk_new (n := mk) (c := .inl (0, mk, .inl g2)) wA
  have kB : ∀ b, b < h.1 + 1 → (mm_new hA mk (.inl (0, mk, .inl g2))).2.2 b = hA.2.2 b := fun b hb => hn_ne (by omega)
  have rB : (mm_new hA mk (.inl (0, mk, .inl g2))).2.2 hA.1 = some (.inl (0, mk, .inl g2)) := hn_at
  have sB : (mm_new hA mk (.inl (0, mk, .inl g2))).1 = h.1 + 2 := by show hA.1 + 1 = _; omega
  have tB : (mm_new hA mk (.inl (0, mk, .inl g2))).2.1 = h.2.1 + nk + mk := by show hA.2.1 + mk = _; omega
  generalize mm_new hA mk (.inl (0, mk, .inl g2)) = hB at wB kB rB sB tB ⊢
  rw [sA] at rB ⊢
  have oB : hB.2.2 o = some (.inr (0, [.ref ta, .ref pa, .int (nI t.1), pl, hl])) := by rw [kB o (by omega), kA o hol]; exact c1
  repeat (first | refine gc_n3 rfl ?_ | refine gc_n6 rfl ?_ | refine gc_n7 rfl ?_ | refine gc_n8 rfl ?_ | refine gc_n9 rfl ?_ | refine gc_n2 rfl ?_ | refine gc_n5 rfl ?_ | refine gc_n1 rfl ?_ | refine gi_con ?_ | refine gi_bip (Nat.le_of_ble_eq_true rfl) ?_ | refine gi_sip (Nat.le_of_ble_eq_true rfl) ?_ | refine gi_ldc ?_ | refine gi_add ?_ | refine gi_inc rfl ?_ | refine gi_sub (by omega) ?_ | refine gi_mul ?_ | refine go_nx rfl ?_)
  refine gc_put (fs' := [.ref ta, .ref pa, .int (nI 0), pl, hl]) oB rfl (Nat.le_of_ble_eq_true rfl) rfl rfl ?_
  have wC : wOk E (mm_set hB o (.inr (0, [.ref ta, .ref pa, .int (nI 0), pl, hl]))) own := ⟨hOk_set2 wB.1 oB, wB.2⟩
  have oC : (mm_set hB o (.inr (0, [.ref ta, .ref pa, .int (nI 0), pl, hl]))).2.2 o = some (.inr (0, [.ref ta, .ref pa, .int (nI 0), pl, hl])) := hs_at
  have kC : ∀ b, b < h.1 → b ≠ o → (mm_set hB o (.inr (0, [.ref ta, .ref pa, .int (nI 0), pl, hl]))).2.2 b = h.2.2 b := fun b hb hbo => by rw [hs_ne hbo, kB b (by omega), kA b hb]
  have r1 : bRow (mm_set hB o (.inr (0, [.ref ta, .ref pa, .int (nI 0), pl, hl]))) h.1 nk (q_sub t.2 0 nk) := row_of2 (by omega) (by rw [hs_ne (by omega), kB h.1 (by omega)]; exact rA) (fun j hj => by rw [hg1 j hj]; exact htb _ (by omega))
  have r2 : bRow (mm_set hB o (.inr (0, [.ref ta, .ref pa, .int (nI 0), pl, hl]))) (h.1 + 1) mk (q_sub t.2 nk mk) := row_of2 (by omega) (by rw [hs_ne (by omega)]; exact rB) (fun j hj => by rw [hg2 j hj]; exact htb _ (by omega))
  have sC : (mm_set hB o (.inr (0, [.ref ta, .ref pa, .int (nI 0), pl, hl]))).1 = h.1 + 2 := sB
  have tC : (mm_set hB o (.inr (0, [.ref ta, .ref pa, .int (nI 0), pl, hl]))).2.1 = h.2.1 + nk + mk := tB
  generalize mm_set hB o (.inr (0, [.ref ta, .ref pa, .int (nI 0), pl, hl])) = hC at wC oC kC r1 r2 sC tC ⊢
  have tapC := kC ta htl hto
  rw [c2] at tapC
  have paC := kC pa hpl hpo
  rw [i4] at paC
  have kfC : kFr h hC own own ta := ⟨by omega, fun b hb => ⟨rfl, fun n1 n2 n3 n4 => kC b hb (fun q => n2 [.ref ta, .ref pa, .int (nI t.1), pl, hl] (by rw [q]; exact c1))⟩⟩
  generalize hP1 : q_sub t.2 0 nk = P1 at hq r1
  generalize hP2 : q_sub t.2 nk mk = P2 at hq r2
  have hiok : q_iok t nk mk hk = (q_path P1 nk && ((decide (mk = 0) || q_path P2 mk) && (!decide (q_bytes P1 nk P2 mk = 0) && !(decide (mk = 0) && (q_bit hk 2 || q_bit hk 8))))) := by
    unfold q_iok
    rw [hP1, hP2]
  rw [hiok] at hq
  clear hiok
  /- the state without a new index -/
  have no : (q_path P1 nk && ((decide (mk = 0) || q_path P2 mk) && (!decide (q_bytes P1 nk P2 mk = 0) && !(decide (mk = 0) && (q_bit hk 2 || q_bit hk 8))))) = false → Q (some (.int (-2))) hC := by
    intro e
    rw [e, if_neg (fun q => Bool.noConfusion q), if_neg (fun q => Bool.noConfusion q)] at hq
    refine hq hC ⟨ta, pa, pl, hl, f, g, N, O, row, B, cIx_kFr (t' := (0, t.2)) hI0 kfC wC ⟨oC, tapC⟩ ⟨Nat.zero_le _, fun j hj => absurd hj (Nat.not_lt_zero _)⟩ paC (fun i w hi hw => ⟨(i9 i w hi hw).1, fun p hp => ?_⟩) i10⟩ kfC (by show hC.1 + 36 * 0 ≤ _; omega) (by show hC.2.1 + 560 * 0 ≤ _; omega) (by omega)
    obtain ⟨a, s1, s2⟩ := (i9 i w hi hw).2 p hp
    refine ⟨a, s1, pSlot_k kfC i2.1 ⟨f, c2⟩ ?_ s2⟩
    obtain ⟨nm, seen, kept, q1, -⟩ := s2
    exact kC a (hOk_lt i2.1 q1) (fun q => by rw [q, c1] at q1; cases q1)
  have b8' : (q_path P1 nk && ((decide (mk = 0) || q_path P2 mk) && (!decide (q_bytes P1 nk P2 mk = 0) && !(decide (mk = 0) && (q_bit hk 2 || q_bit hk 8))))) = false → ∀ x7 : Nat, mm_Go E d 3 (mm_blk 3 8) [.ref o, .int (nI ik), .int (nI nk), .int (nI mk), .int (nI hk), .ref h.1, .ref (h.1 + 1), .int (nI x7)] [] hC Q := by
    intro e x7
    repeat (first | refine gc_n3 rfl ?_ | refine gc_n6 rfl ?_ | refine gc_n7 rfl ?_ | refine gc_n8 rfl ?_ | refine gc_n9 rfl ?_ | refine gc_n2 rfl ?_ | refine gc_n5 rfl ?_ | refine gc_n1 rfl ?_ | refine gi_con ?_ | refine gi_bip (Nat.le_of_ble_eq_true rfl) ?_ | refine gi_sip (Nat.le_of_ble_eq_true rfl) ?_ | refine gi_ldc ?_ | refine gi_add ?_ | refine gi_inc rfl ?_ | refine gi_sub (by omega) ?_ | refine gi_mul ?_ | refine go_nx rfl ?_)
    refine go_rt rfl ?_
    exact no e
  have b10' : (q_path P1 nk && ((decide (mk = 0) || q_path P2 mk) && (!decide (q_bytes P1 nk P2 mk = 0) && !(decide (mk = 0) && (q_bit hk 2 || q_bit hk 8))))) = false → ∀ x7 : Nat, mm_Go E d 3 (mm_blk 3 10) [.ref o, .int (nI ik), .int (nI nk), .int (nI mk), .int (nI hk), .ref h.1, .ref (h.1 + 1), .int (nI x7)] [] hC Q := by
    intro e x7
    repeat (first | refine gc_n3 rfl ?_ | refine gc_n6 rfl ?_ | refine gc_n7 rfl ?_ | refine gc_n8 rfl ?_ | refine gc_n9 rfl ?_ | refine gc_n2 rfl ?_ | refine gc_n5 rfl ?_ | refine gc_n1 rfl ?_ | refine gi_con ?_ | refine gi_bip (Nat.le_of_ble_eq_true rfl) ?_ | refine gi_sip (Nat.le_of_ble_eq_true rfl) ?_ | refine gi_ldc ?_ | refine gi_add ?_ | refine gi_inc rfl ?_ | refine gi_sub (by omega) ?_ | refine gi_mul ?_ | refine go_nx rfl ?_)
    refine go_rt rfl ?_
    exact no e
  /- a new index -/
  have new : (q_path P1 nk && ((decide (mk = 0) || q_path P2 mk) && (!decide (q_bytes P1 nk P2 mk = 0) && !(decide (mk = 0) && (q_bit hk 2 || q_bit hk 8))))) = true → ∀ x7 : Nat, x7 = (if mk = 0 then 1 else 0) → mm_Go E d 3 (mm_blk 3 11) [.ref o, .int (nI ik), .int (nI nk), .int (nI mk), .int (nI hk), .ref h.1, .ref (h.1 + 1), .int (nI x7)] [] hC Q := by
    intro e x7 hx7
    rw [e, if_pos rfl, if_pos rfl] at hq
    /- the first path -/
    have w1 := wOk_new (n := 5) (c := pCell ((nk, P1), q_bit hk 4, q_bit hk 1) h.1 .null .null) wC
    have k1 : ∀ b, b < h.1 + 2 → (mm_new hC 5 (pCell ((nk, P1), q_bit hk 4, q_bit hk 1) h.1 .null .null)).2.2 b = hC.2.2 b := fun b hb => hn_ne (by omega)
    have a1 : (mm_new hC 5 (pCell ((nk, P1), q_bit hk 4, q_bit hk 1) h.1 .null .null)).2.2 (h.1 + 2) = some (pCell ((nk, P1), q_bit hk 4, q_bit hk 1) h.1 .null .null) := by rw [← sC]; exact hn_at
    have s1 : (mm_new hC 5 (pCell ((nk, P1), q_bit hk 4, q_bit hk 1) h.1 .null .null)).1 = h.1 + 3 := by show hC.1 + 1 = _; omega
    have t1 : (mm_new hC 5 (pCell ((nk, P1), q_bit hk 4, q_bit hk 1) h.1 .null .null)).2.1 = h.2.1 + nk + mk + 5 := by show hC.2.1 + 5 = _; omega
    have f15 : mm_Go E d 3 (mm_blk 3 15) [.ref o, .int (nI ik), .int (nI nk), .int (nI mk), .int (nI hk), .ref h.1, .ref (h.1 + 1), .int (nI x7)] [.int (q_t (q_bit hk 4)), .int (q_t (q_bit hk 1)), .ref h.1, .ref hC.1, .ref hC.1, .int (nI (2 * ik)), .ref pa] (mm_new hC 5 (.inr (1, [.int 0, .null, .int 0, .null, .null]))) Q := by
      refine go_step ?_
      refine g_call (k := 16) rfl (by omega) (Nat.le_of_ble_eq_true rfl) rfl ?_
      refine sp_pinit (p := ((nk, P1), q_bit hk 4, q_bit hk 1)) hn_at ?_
      rw [hn_set]
      rw [sC]
      generalize mm_new hC 5 (pCell ((nk, P1), q_bit hk 4, q_bit hk 1) h.1 .null .null) = h1 at w1 k1 a1 s1 t1 ⊢
      have pa1 : h1.2.2 pa = some (.inl (4, 16, .inr (.inr (.inr (.inr g))))) := by rw [k1 pa (by omega)]; exact paC
      have o1 : h1.2.2 o = some (.inr (0, [.ref ta, .ref pa, .int (nI 0), pl, hl])) := by rw [k1 o (by omega)]; exact oC
      refine gc_aastR pa1 (show 2 * ik < 16 by omega) (by omega) (o_may a1 (Or.inr ⟨rfl, rfl⟩)) ?_
      have w2 : wOk E (mm_set h1 pa (.inl (4, 16, .inr (.inr (.inr (.inr (uf g (2 * ik) (some (h.1 + 2))))))))) own := ⟨hOk_set2 w1.1 pa1, w1.2⟩
      have pa2 : (mm_set h1 pa (.inl (4, 16, .inr (.inr (.inr (.inr (uf g (2 * ik) (some (h.1 + 2))))))))).2.2 pa = some (.inl (4, 16, .inr (.inr (.inr (.inr (uf g (2 * ik) (some (h.1 + 2)))))))) := hs_at
      have k2 : ∀ b, b ≠ pa → (mm_set h1 pa (.inl (4, 16, .inr (.inr (.inr (.inr (uf g (2 * ik) (some (h.1 + 2))))))))).2.2 b = h1.2.2 b := fun b hb => hs_ne hb
      have s2 : (mm_set h1 pa (.inl (4, 16, .inr (.inr (.inr (.inr (uf g (2 * ik) (some (h.1 + 2))))))))).1 = h.1 + 3 := s1
      have t2 : (mm_set h1 pa (.inl (4, 16, .inr (.inr (.inr (.inr (uf g (2 * ik) (some (h.1 + 2))))))))).2.1 = h.2.1 + nk + mk + 5 := t1
      generalize mm_set h1 pa (.inl (4, 16, .inr (.inr (.inr (.inr (uf g (2 * ik) (some (h.1 + 2)))))))) = h2 at w2 pa2 k2 s2 t2 ⊢
      have o2 : h2.2.2 o = some (.inr (0, [.ref ta, .ref pa, .int (nI 0), pl, hl])) := by rw [k2 o (Ne.symm hpo)]; exact o1
      have a2 : h2.2.2 (h.1 + 2) = some (pCell ((nk, P1), q_bit hk 4, q_bit hk 1) h.1 .null .null) := by rw [k2 _ (by omega)]; exact a1
      have old2 : ∀ b, b < h.1 → b ≠ o → b ≠ pa → h2.2.2 b = h.2.2 b := fun b hb h1' h2' => by rw [k2 b h2', k1 b (by omega)]; exact kC b hb h1'
      have new2 : ∀ b, h.1 ≤ b → b < h.1 + 2 → h2.2.2 b = hC.2.2 b := fun b hb hb2 => by rw [k2 b (by omega), k1 b (by omega)]
      /- the end: the state -/
      have fin : ∀ (h4 : mmH) (s : Option Nat) (p2 : qP), wOk E h4 own → h4.2.2 pa = some (.inl (4, 16, .inr (.inr (.inr (.inr (uf (uf g (2 * ik) (some (h.1 + 2))) (2 * ik + 1) s)))))) → (∀ b, b < h.1 + 3 → b ≠ pa → h4.2.2 b = h2.2.2 b) → h.1 + 3 ≤ h4.1 → h4.1 ≤ h.1 + 4 → h4.2.1 ≤ h.2.1 + nk + mk + 10 → h.2.1 ≤ h4.2.1 → (mk = 0 → s = none) → (mk ≠ 0 → s = some (h.1 + 3) ∧ h4.2.2 (h.1 + 3) = some (pCell ((mk, P2), q_bit hk 8, q_bit hk 2) (h.1 + 1) .null .null)) → Q (some (.int 0)) h4 := by
        intro h4 s p2 w4 pa4 k4 s4 s4' t4 t4' m0 m1
        have kf4 : kFr h h4 own own ta := ⟨by omega, fun b hb => ⟨rfl, fun n1 n2 n3 n4 => by
          have hbo : b ≠ o := fun q => n2 [.ref ta, .ref pa, .int (nI t.1), pl, hl] (by rw [q]; exact c1)
          have hbp : b ≠ pa := fun q => n4 (16, .inr (.inr (.inr (.inr g)))) (by rw [q]; exact i4)
          rw [k4 b (by omega) hbp]
          exact old2 b hb hbo hbp⟩⟩
        have row1 : bRow h4 h.1 nk P1 := bRow_eq r1 (by rw [k4 h.1 (by omega) (by omega), new2 h.1 (by omega) (by omega)])
        have row2 : bRow h4 (h.1 + 1) mk P2 := bRow_eq r2 (by rw [k4 _ (by omega) (by omega), new2 _ (by omega) (by omega)])
        have gold : ∀ k a, k < 16 → g k = some a → a < h.1 := by
          intro k a hk' hga
          have hx : ∃ i w, i < 8 ∧ w < 2 ∧ 2 * i + w = k := ⟨k / 2, k % 2, by omega, by omega, by omega⟩
          obtain ⟨i, w, hi, hw, e⟩ := hx
          cases hp : q_pt2 X i w with
          | none => rw [← e, (i9 i w hi hw).1 hp] at hga; cases hga
          | some p =>
            obtain ⟨a', z1, nm, seen, kept, z2, -⟩ := (i9 i w hi hw).2 p hp
            rw [e, hga] at z1
            cases z1
            exact hOk_lt i2.1 z2
        refine hq h4 ⟨ta, pa, pl, hl, f, uf (uf g (2 * ik) (some (h.1 + 2))) (2 * ik + 1) s, N, O, row, B, cIx_kFr (t' := (0, t.2)) hI0 kf4 w4 ⟨by rw [k4 o (by omega) (Ne.symm hpo)]; exact o2, by rw [k4 ta (by omega) (Ne.symm hpt), old2 ta htl hto (Ne.symm hpt)]; exact c2⟩ ⟨Nat.zero_le _, fun j hj => absurd hj (Nat.not_lt_zero _)⟩ pa4 (fun i w hi hw => ?_) (fun x y a hx hy hgx hgy => ?_)⟩ kf4 (by show h4.1 + 36 * 0 ≤ _; omega) (by show h4.2.1 + 560 * 0 ≤ _; omega) t4'
        · by_cases hii : i = ik
          · subst hii
            rcases (show w = 0 ∨ w = 1 by omega) with q | q
            · subst q
              have hx : q_pt2 (uf X i (some ((nk, P1), (mk, P2), hk))) i 0 = some ((nk, P1), q_bit hk 4, q_bit hk 1) := by
                unfold q_pt2
                rw [uf_at]
                rfl
              refine ⟨fun z => absurd (hx.symm.trans z) (fun q => by cases q), fun p hp => ?_⟩
              rw [hx] at hp
              cases hp
              refine ⟨h.1 + 2, by rw [uf_ne (by omega)]; exact uf_at _ _ _, h.1, .null, .null, ?_, row1, by omega, Or.inl rfl, fun fa _ z => by cases z⟩
              rw [k4 _ (by omega) (by omega)]
              exact a2
            · subst q
              by_cases hm : mk = 0
              · have hx : q_pt2 (uf X i (some ((nk, P1), (mk, P2), hk))) i 1 = none := by
                  unfold q_pt2
                  rw [uf_at]
                  show (if (1 : Nat) = 0 then _ else if 0 < mk then _ else none) = none
                  rw [if_neg (by decide), if_neg (by omega)]
                exact ⟨fun _ => by rw [uf_at]; exact m0 hm, fun p hp => by rw [hx] at hp; cases hp⟩
              · have hx : q_pt2 (uf X i (some ((nk, P1), (mk, P2), hk))) i 1 = some ((mk, P2), q_bit hk 8, q_bit hk 2) := by
                  unfold q_pt2
                  rw [uf_at]
                  show (if (1 : Nat) = 0 then _ else if 0 < mk then _ else none) = _
                  rw [if_neg (by decide), if_pos (by omega)]
                refine ⟨fun z => absurd (hx.symm.trans z) (fun q => by cases q), fun p hp => ?_⟩
                rw [hx] at hp
                cases hp
                exact ⟨h.1 + 3, by rw [uf_at]; exact (m1 hm).1, h.1 + 1, .null, .null, (m1 hm).2, row2, by omega, Or.inl rfl, fun fa _ z => by cases z⟩
          · have hx : q_pt2 (uf X ik (some ((nk, P1), (mk, P2), hk))) i w = q_pt2 X i w := by
              unfold q_pt2
              rw [uf_ne hii]
            rw [hx, uf_ne (by omega), uf_ne (by omega)]
            refine ⟨(i9 i w hi hw).1, fun p hp => ?_⟩
            obtain ⟨a, z1, z2⟩ := (i9 i w hi hw).2 p hp
            refine ⟨a, z1, pSlot_k kf4 i2.1 ⟨f, c2⟩ ?_ z2⟩
            obtain ⟨nm, seen, kept, z3, -⟩ := z2
            have hal := hOk_lt i2.1 z3
            have hao : a ≠ o := fun q => by rw [q, c1] at z3; cases z3
            have hap : a ≠ pa := fun q => by rw [q, i4] at z3; cases z3
            rw [k4 a (by omega) hap]
            exact old2 a hal hao hap
        · have key : ∀ x, x < 16 → uf (uf g (2 * ik) (some (h.1 + 2))) (2 * ik + 1) s x = some a → (x = 2 * ik ∧ a = h.1 + 2) ∨ (x = 2 * ik + 1 ∧ a = h.1 + 3) ∨ (g x = some a ∧ a < h.1) := by
            intro x hx hg'
            by_cases e1 : x = 2 * ik + 1
            · rw [e1, uf_at] at hg'
              refine Or.inr (Or.inl ⟨e1, ?_⟩)
              by_cases hm : mk = 0
              · rw [m0 hm] at hg'; cases hg'
              · rw [(m1 hm).1] at hg'; cases hg'; rfl
            · rw [uf_ne e1] at hg'
              by_cases e2 : x = 2 * ik
              · rw [e2, uf_at] at hg'
                cases hg'
                exact Or.inl ⟨e2, rfl⟩
              · rw [uf_ne e2] at hg'
                exact Or.inr (Or.inr ⟨hg', gold x a hx hg'⟩)
          rcases key x hx hgx with ⟨q1, q2⟩ | ⟨q1, q2⟩ | ⟨q1, q2⟩ <;> rcases key y hy hgy with ⟨z1, z2⟩ | ⟨z1, z2⟩ | ⟨z1, z2⟩
          · omega
          · omega
          · omega
          · omega
          · omega
          · omega
          · omega
          · omega
          · exact i10 x y a hx hy q1 z1
      repeat (first | refine gc_n3 rfl ?_ | refine gc_n6 rfl ?_ | refine gc_n7 rfl ?_ | refine gc_n8 rfl ?_ | refine gc_n9 rfl ?_ | refine gc_n2 rfl ?_ | refine gc_n5 rfl ?_ | refine gc_n1 rfl ?_ | refine gi_con ?_ | refine gi_bip (Nat.le_of_ble_eq_true rfl) ?_ | refine gi_sip (Nat.le_of_ble_eq_true rfl) ?_ | refine gi_ldc ?_ | refine gi_add ?_ | refine gi_inc rfl ?_ | refine gi_sub (by omega) ?_ | refine gi_mul ?_ | refine go_nx rfl ?_)
      refine gf_get _ o2 (by decide) rfl ?_
      by_cases hm : mk = 0
      · rw [if_pos hm] at hx7
        subst hx7
        repeat (first | refine gc_n3 rfl ?_ | refine gc_n6 rfl ?_ | refine gc_n7 rfl ?_ | refine gc_n8 rfl ?_ | refine gc_n9 rfl ?_ | refine gc_n2 rfl ?_ | refine gc_n5 rfl ?_ | refine gc_n1 rfl ?_ | refine gi_con ?_ | refine gi_bip (Nat.le_of_ble_eq_true rfl) ?_ | refine gi_sip (Nat.le_of_ble_eq_true rfl) ?_ | refine gi_ldc ?_ | refine gi_add ?_ | refine gi_inc rfl ?_ | refine gi_sub (by omega) ?_ | refine gi_mul ?_ | refine go_nx rfl ?_)
        first | refine gz_eq (by omega) (fun c9 => ?_) (fun c9 => ?_) | refine gz_ne (by omega) (fun c9 => ?_) (fun c9 => ?_) | refine gz_le (by omega) (fun c9 => ?_) (fun c9 => ?_) | refine gz_gt (by omega) (fun c9 => ?_) (fun c9 => ?_) | refine gz_lt (by omega) (fun c9 => ?_) (fun c9 => ?_) | refine gz_ge (by omega) (fun c9 => ?_) (fun c9 => ?_)
        · omega
        repeat (first | refine gc_n3 rfl ?_ | refine gc_n6 rfl ?_ | refine gc_n7 rfl ?_ | refine gc_n8 rfl ?_ | refine gc_n9 rfl ?_ | refine gc_n2 rfl ?_ | refine gc_n5 rfl ?_ | refine gc_n1 rfl ?_ | refine gi_con ?_ | refine gi_bip (Nat.le_of_ble_eq_true rfl) ?_ | refine gi_sip (Nat.le_of_ble_eq_true rfl) ?_ | refine gi_ldc ?_ | refine gi_add ?_ | refine gi_inc rfl ?_ | refine gi_sub (by omega) ?_ | refine gi_mul ?_ | refine go_nx rfl ?_)
        refine go_jp rfl ?_
        refine gc_aastN pa2 (show 2 * ik + 1 < 16 by omega) (by omega) ?_
        repeat (first | refine gc_n3 rfl ?_ | refine gc_n6 rfl ?_ | refine gc_n7 rfl ?_ | refine gc_n8 rfl ?_ | refine gc_n9 rfl ?_ | refine gc_n2 rfl ?_ | refine gc_n5 rfl ?_ | refine gc_n1 rfl ?_ | refine gi_con ?_ | refine gi_bip (Nat.le_of_ble_eq_true rfl) ?_ | refine gi_sip (Nat.le_of_ble_eq_true rfl) ?_ | refine gi_ldc ?_ | refine gi_add ?_ | refine gi_inc rfl ?_ | refine gi_sub (by omega) ?_ | refine gi_mul ?_ | refine go_nx rfl ?_)
        refine go_rt rfl ?_
        exact fin _ none ((mk, P2), false, false) ⟨hOk_set2 w2.1 pa2, w2.2⟩ hs_at (fun b hb hbp => hs_ne hbp) (by show h.1 + 3 ≤ h2.1; omega) (by show h2.1 ≤ _; omega) (by show h2.2.1 ≤ _; omega) (by show h.2.1 ≤ h2.2.1; omega) (fun _ => rfl) (fun q => absurd hm q)
      · rw [if_neg hm] at hx7
        subst hx7
        have w3 := wOk_new (n := 5) (c := pCell ((mk, P2), q_bit hk 8, q_bit hk 2) (h.1 + 1) .null .null) w2
        have f20 : mm_Go E d 3 (mm_blk 3 20) [.ref o, .int (nI ik), .int (nI nk), .int (nI mk), .int (nI hk), .ref h.1, .ref (h.1 + 1), .int (nI 0)] [.int (q_t (q_bit hk 8)), .int (q_t (q_bit hk 2)), .ref (h.1 + 1), .ref h2.1, .ref h2.1, .int (nI (2 * ik + 1)), .ref pa] (mm_new h2 5 (.inr (1, [.int 0, .null, .int 0, .null, .null]))) Q := by
          refine go_step ?_
          refine g_call (k := 16) rfl (by omega) (Nat.le_of_ble_eq_true rfl) rfl ?_
          refine sp_pinit (p := ((mk, P2), q_bit hk 8, q_bit hk 2)) hn_at ?_
          rw [hn_set]
          have a3 : (mm_new h2 5 (pCell ((mk, P2), q_bit hk 8, q_bit hk 2) (h.1 + 1) .null .null)).2.2 h2.1 = some (pCell ((mk, P2), q_bit hk 8, q_bit hk 2) (h.1 + 1) .null .null) := hn_at
          have pa3 : (mm_new h2 5 (pCell ((mk, P2), q_bit hk 8, q_bit hk 2) (h.1 + 1) .null .null)).2.2 pa = some (.inl (4, 16, .inr (.inr (.inr (.inr (uf g (2 * ik) (some (h.1 + 2)))))))) := by rw [hn_ne (by omega)]; exact pa2
          repeat (first | refine gc_n3 rfl ?_ | refine gc_n6 rfl ?_ | refine gc_n7 rfl ?_ | refine gc_n8 rfl ?_ | refine gc_n9 rfl ?_ | refine gc_n2 rfl ?_ | refine gc_n5 rfl ?_ | refine gc_n1 rfl ?_ | refine gi_con ?_ | refine gi_bip (Nat.le_of_ble_eq_true rfl) ?_ | refine gi_sip (Nat.le_of_ble_eq_true rfl) ?_ | refine gi_ldc ?_ | refine gi_add ?_ | refine gi_inc rfl ?_ | refine gi_sub (by omega) ?_ | refine gi_mul ?_ | refine go_nx rfl ?_)
          refine go_jp rfl ?_
          refine gc_aastR pa3 (show 2 * ik + 1 < 16 by omega) (by omega) (o_may a3 (Or.inr ⟨rfl, rfl⟩)) ?_
          repeat (first | refine gc_n3 rfl ?_ | refine gc_n6 rfl ?_ | refine gc_n7 rfl ?_ | refine gc_n8 rfl ?_ | refine gc_n9 rfl ?_ | refine gc_n2 rfl ?_ | refine gc_n5 rfl ?_ | refine gc_n1 rfl ?_ | refine gi_con ?_ | refine gi_bip (Nat.le_of_ble_eq_true rfl) ?_ | refine gi_sip (Nat.le_of_ble_eq_true rfl) ?_ | refine gi_ldc ?_ | refine gi_add ?_ | refine gi_inc rfl ?_ | refine gi_sub (by omega) ?_ | refine gi_mul ?_ | refine go_nx rfl ?_)
          refine go_rt rfl ?_
          refine fin _ (some h2.1) ((mk, P2), false, false) ⟨hOk_set2 w3.1 pa3, w3.2⟩ hs_at (fun b hb hbp => ?_) ?_ ?_ ?_ ?_ (fun q => absurd q hm) (fun _ => ⟨by rw [s2], ?_⟩)
          · rw [hs_ne hbp, hn_ne (by omega)]
          · show h.1 + 3 ≤ h2.1 + 1
            omega
          · show h2.1 + 1 ≤ _
            omega
          · show h2.2.1 + 5 ≤ _
            omega
          · show h.2.1 ≤ h2.2.1 + 5
            omega
          · rw [hs_ne (by omega), ← s2]
            exact a3
        have f18 : mm_Go E d 3 (mm_blk 3 18) [.ref o, .int (nI ik), .int (nI nk), .int (nI mk), .int (nI hk), .ref h.1, .ref (h.1 + 1), .int (nI 0)] [.int (q_t (q_bit hk 2)), .ref (h.1 + 1), .ref h2.1, .ref h2.1, .int (nI (2 * ik + 1)), .ref pa] (mm_new h2 5 (.inr (1, [.int 0, .null, .int 0, .null, .null]))) Q := by
          repeat (first | refine gc_n3 rfl ?_ | refine gc_n6 rfl ?_ | refine gc_n7 rfl ?_ | refine gc_n8 rfl ?_ | refine gc_n9 rfl ?_ | refine gc_n2 rfl ?_ | refine gc_n5 rfl ?_ | refine gc_n1 rfl ?_ | refine gi_con ?_ | refine gi_bip (Nat.le_of_ble_eq_true rfl) ?_ | refine gi_sip (Nat.le_of_ble_eq_true rfl) ?_ | refine gi_ldc ?_ | refine gi_add ?_ | refine gi_inc rfl ?_ | refine gi_sub (by omega) ?_ | refine gi_mul ?_ | refine go_nx rfl ?_)
          refine gx_eq (fun c10 => ?_) (fun c10 => ?_)
          · rw [b8.mp c10] at f20
            repeat (first | refine gc_n3 rfl ?_ | refine gc_n6 rfl ?_ | refine gc_n7 rfl ?_ | refine gc_n8 rfl ?_ | refine gc_n9 rfl ?_ | refine gc_n2 rfl ?_ | refine gc_n5 rfl ?_ | refine gc_n1 rfl ?_ | refine gi_con ?_ | refine gi_bip (Nat.le_of_ble_eq_true rfl) ?_ | refine gi_sip (Nat.le_of_ble_eq_true rfl) ?_ | refine gi_ldc ?_ | refine gi_add ?_ | refine gi_inc rfl ?_ | refine gi_sub (by omega) ?_ | refine gi_mul ?_ | refine go_nx rfl ?_)
            refine go_jp rfl ?_
            exact f20
          · have e8 : q_bit hk 8 = true := by
              cases hh : q_bit hk 8 with
              | true => rfl
              | false => exact absurd (b8.mpr hh) c10
            rw [e8] at f20
            repeat (first | refine gc_n3 rfl ?_ | refine gc_n6 rfl ?_ | refine gc_n7 rfl ?_ | refine gc_n8 rfl ?_ | refine gc_n9 rfl ?_ | refine gc_n2 rfl ?_ | refine gc_n5 rfl ?_ | refine gc_n1 rfl ?_ | refine gi_con ?_ | refine gi_bip (Nat.le_of_ble_eq_true rfl) ?_ | refine gi_sip (Nat.le_of_ble_eq_true rfl) ?_ | refine gi_ldc ?_ | refine gi_add ?_ | refine gi_inc rfl ?_ | refine gi_sub (by omega) ?_ | refine gi_mul ?_ | refine go_nx rfl ?_)
            refine go_jp rfl ?_
            exact f20
        repeat (first | refine gc_n3 rfl ?_ | refine gc_n6 rfl ?_ | refine gc_n7 rfl ?_ | refine gc_n8 rfl ?_ | refine gc_n9 rfl ?_ | refine gc_n2 rfl ?_ | refine gc_n5 rfl ?_ | refine gc_n1 rfl ?_ | refine gi_con ?_ | refine gi_bip (Nat.le_of_ble_eq_true rfl) ?_ | refine gi_sip (Nat.le_of_ble_eq_true rfl) ?_ | refine gi_ldc ?_ | refine gi_add ?_ | refine gi_inc rfl ?_ | refine gi_sub (by omega) ?_ | refine gi_mul ?_ | refine go_nx rfl ?_)
        first | refine gz_eq (by omega) (fun c9 => ?_) (fun c9 => ?_) | refine gz_ne (by omega) (fun c9 => ?_) (fun c9 => ?_) | refine gz_le (by omega) (fun c9 => ?_) (fun c9 => ?_) | refine gz_gt (by omega) (fun c9 => ?_) (fun c9 => ?_) | refine gz_lt (by omega) (fun c9 => ?_) (fun c9 => ?_) | refine gz_ge (by omega) (fun c9 => ?_) (fun c9 => ?_)
        rotate_left
        · omega
        repeat (first | refine gc_n3 rfl ?_ | refine gc_n6 rfl ?_ | refine gc_n7 rfl ?_ | refine gc_n8 rfl ?_ | refine gc_n9 rfl ?_ | refine gc_n2 rfl ?_ | refine gc_n5 rfl ?_ | refine gc_n1 rfl ?_ | refine gi_con ?_ | refine gi_bip (Nat.le_of_ble_eq_true rfl) ?_ | refine gi_sip (Nat.le_of_ble_eq_true rfl) ?_ | refine gi_ldc ?_ | refine gi_add ?_ | refine gi_inc rfl ?_ | refine gi_sub (by omega) ?_ | refine gi_mul ?_ | refine go_nx rfl ?_)
        refine gx_eq (fun c10 => ?_) (fun c10 => ?_)
        · rw [b2.mp c10] at f18
          repeat (first | refine gc_n3 rfl ?_ | refine gc_n6 rfl ?_ | refine gc_n7 rfl ?_ | refine gc_n8 rfl ?_ | refine gc_n9 rfl ?_ | refine gc_n2 rfl ?_ | refine gc_n5 rfl ?_ | refine gc_n1 rfl ?_ | refine gi_con ?_ | refine gi_bip (Nat.le_of_ble_eq_true rfl) ?_ | refine gi_sip (Nat.le_of_ble_eq_true rfl) ?_ | refine gi_ldc ?_ | refine gi_add ?_ | refine gi_inc rfl ?_ | refine gi_sub (by omega) ?_ | refine gi_mul ?_ | refine go_nx rfl ?_)
          refine go_jp rfl ?_
          exact f18
        · have e8 : q_bit hk 2 = true := by
            cases hh : q_bit hk 2 with
            | true => rfl
            | false => exact absurd (b2.mpr hh) c10
          rw [e8] at f18
          repeat (first | refine gc_n3 rfl ?_ | refine gc_n6 rfl ?_ | refine gc_n7 rfl ?_ | refine gc_n8 rfl ?_ | refine gc_n9 rfl ?_ | refine gc_n2 rfl ?_ | refine gc_n5 rfl ?_ | refine gc_n1 rfl ?_ | refine gi_con ?_ | refine gi_bip (Nat.le_of_ble_eq_true rfl) ?_ | refine gi_sip (Nat.le_of_ble_eq_true rfl) ?_ | refine gi_ldc ?_ | refine gi_add ?_ | refine gi_inc rfl ?_ | refine gi_sub (by omega) ?_ | refine gi_mul ?_ | refine go_nx rfl ?_)
          refine go_jp rfl ?_
          exact f18
    have f13 : mm_Go E d 3 (mm_blk 3 13) [.ref o, .int (nI ik), .int (nI nk), .int (nI mk), .int (nI hk), .ref h.1, .ref (h.1 + 1), .int (nI x7)] [.int (q_t (q_bit hk 1)), .ref h.1, .ref hC.1, .ref hC.1, .int (nI (2 * ik)), .ref pa] (mm_new hC 5 (.inr (1, [.int 0, .null, .int 0, .null, .null]))) Q := by
      repeat (first | refine gc_n3 rfl ?_ | refine gc_n6 rfl ?_ | refine gc_n7 rfl ?_ | refine gc_n8 rfl ?_ | refine gc_n9 rfl ?_ | refine gc_n2 rfl ?_ | refine gc_n5 rfl ?_ | refine gc_n1 rfl ?_ | refine gi_con ?_ | refine gi_bip (Nat.le_of_ble_eq_true rfl) ?_ | refine gi_sip (Nat.le_of_ble_eq_true rfl) ?_ | refine gi_ldc ?_ | refine gi_add ?_ | refine gi_inc rfl ?_ | refine gi_sub (by omega) ?_ | refine gi_mul ?_ | refine go_nx rfl ?_)
      refine gx_eq (fun c10 => ?_) (fun c10 => ?_)
      · rw [b4.mp c10] at f15
        repeat (first | refine gc_n3 rfl ?_ | refine gc_n6 rfl ?_ | refine gc_n7 rfl ?_ | refine gc_n8 rfl ?_ | refine gc_n9 rfl ?_ | refine gc_n2 rfl ?_ | refine gc_n5 rfl ?_ | refine gc_n1 rfl ?_ | refine gi_con ?_ | refine gi_bip (Nat.le_of_ble_eq_true rfl) ?_ | refine gi_sip (Nat.le_of_ble_eq_true rfl) ?_ | refine gi_ldc ?_ | refine gi_add ?_ | refine gi_inc rfl ?_ | refine gi_sub (by omega) ?_ | refine gi_mul ?_ | refine go_nx rfl ?_)
        refine go_jp rfl ?_
        exact f15
      · have e8 : q_bit hk 4 = true := by
          cases hh : q_bit hk 4 with
          | true => rfl
          | false => exact absurd (b4.mpr hh) c10
        rw [e8] at f15
        repeat (first | refine gc_n3 rfl ?_ | refine gc_n6 rfl ?_ | refine gc_n7 rfl ?_ | refine gc_n8 rfl ?_ | refine gc_n9 rfl ?_ | refine gc_n2 rfl ?_ | refine gc_n5 rfl ?_ | refine gc_n1 rfl ?_ | refine gi_con ?_ | refine gi_bip (Nat.le_of_ble_eq_true rfl) ?_ | refine gi_sip (Nat.le_of_ble_eq_true rfl) ?_ | refine gi_ldc ?_ | refine gi_add ?_ | refine gi_inc rfl ?_ | refine gi_sub (by omega) ?_ | refine gi_mul ?_ | refine go_nx rfl ?_)
        refine go_jp rfl ?_
        exact f15
    repeat (first | refine gc_n3 rfl ?_ | refine gc_n6 rfl ?_ | refine gc_n7 rfl ?_ | refine gc_n8 rfl ?_ | refine gc_n9 rfl ?_ | refine gc_n2 rfl ?_ | refine gc_n5 rfl ?_ | refine gc_n1 rfl ?_ | refine gi_con ?_ | refine gi_bip (Nat.le_of_ble_eq_true rfl) ?_ | refine gi_sip (Nat.le_of_ble_eq_true rfl) ?_ | refine gi_ldc ?_ | refine gi_add ?_ | refine gi_inc rfl ?_ | refine gi_sub (by omega) ?_ | refine gi_mul ?_ | refine go_nx rfl ?_)
    refine gf_get _ oC (by decide) rfl ?_
    repeat (first | refine gc_n3 rfl ?_ | refine gc_n6 rfl ?_ | refine gc_n7 rfl ?_ | refine gc_n8 rfl ?_ | refine gc_n9 rfl ?_ | refine gc_n2 rfl ?_ | refine gc_n5 rfl ?_ | refine gc_n1 rfl ?_ | refine gi_con ?_ | refine gi_bip (Nat.le_of_ble_eq_true rfl) ?_ | refine gi_sip (Nat.le_of_ble_eq_true rfl) ?_ | refine gi_ldc ?_ | refine gi_add ?_ | refine gi_inc rfl ?_ | refine gi_sub (by omega) ?_ | refine gi_mul ?_ | refine go_nx rfl ?_)
    refine gx_eq (fun c10 => ?_) (fun c10 => ?_)
    · rw [b1.mp c10] at f13
      repeat (first | refine gc_n3 rfl ?_ | refine gc_n6 rfl ?_ | refine gc_n7 rfl ?_ | refine gc_n8 rfl ?_ | refine gc_n9 rfl ?_ | refine gc_n2 rfl ?_ | refine gc_n5 rfl ?_ | refine gc_n1 rfl ?_ | refine gi_con ?_ | refine gi_bip (Nat.le_of_ble_eq_true rfl) ?_ | refine gi_sip (Nat.le_of_ble_eq_true rfl) ?_ | refine gi_ldc ?_ | refine gi_add ?_ | refine gi_inc rfl ?_ | refine gi_sub (by omega) ?_ | refine gi_mul ?_ | refine go_nx rfl ?_)
      refine go_jp rfl ?_
      exact f13
    · have e8 : q_bit hk 1 = true := by
        cases hh : q_bit hk 1 with
        | true => rfl
        | false => exact absurd (b1.mpr hh) c10
      rw [e8] at f13
      repeat (first | refine gc_n3 rfl ?_ | refine gc_n6 rfl ?_ | refine gc_n7 rfl ?_ | refine gc_n8 rfl ?_ | refine gc_n9 rfl ?_ | refine gc_n2 rfl ?_ | refine gc_n5 rfl ?_ | refine gc_n1 rfl ?_ | refine gi_con ?_ | refine gi_bip (Nat.le_of_ble_eq_true rfl) ?_ | refine gi_sip (Nat.le_of_ble_eq_true rfl) ?_ | refine gi_ldc ?_ | refine gi_add ?_ | refine gi_inc rfl ?_ | refine gi_sub (by omega) ?_ | refine gi_mul ?_ | refine go_nx rfl ?_)
      refine go_jp rfl ?_
      exact f13
  /- the tests -/
  have nine : ∀ x7 : Nat, x7 = (if mk = 0 then 1 else 0) → q_path P1 nk = true → (mk = 0 → (q_bit hk 2 || q_bit hk 8) = false) → mm_Go E d 3 (mm_blk 3 9) [.ref o, .int (nI ik), .int (nI nk), .int (nI mk), .int (nI hk), .ref h.1, .ref (h.1 + 1), .int (nI x7)] [] hC Q := by
    intro x7 hx7 hp1 hbb
    have hx71 : x7 ≤ 1 := by rw [hx7]; split <;> omega
    repeat (first | refine gc_n3 rfl ?_ | refine gc_n6 rfl ?_ | refine gc_n7 rfl ?_ | refine gc_n8 rfl ?_ | refine gc_n9 rfl ?_ | refine gc_n2 rfl ?_ | refine gc_n5 rfl ?_ | refine gc_n1 rfl ?_ | refine gi_con ?_ | refine gi_bip (Nat.le_of_ble_eq_true rfl) ?_ | refine gi_sip (Nat.le_of_ble_eq_true rfl) ?_ | refine gi_ldc ?_ | refine gi_add ?_ | refine gi_inc rfl ?_ | refine gi_sub (by omega) ?_ | refine gi_mul ?_ | refine go_nx rfl ?_)
    first | refine gz_eq (by omega) (fun c9 => ?_) (fun c9 => ?_) | refine gz_ne (by omega) (fun c9 => ?_) (fun c9 => ?_) | refine gz_le (by omega) (fun c9 => ?_) (fun c9 => ?_) | refine gz_gt (by omega) (fun c9 => ?_) (fun c9 => ?_) | refine gz_lt (by omega) (fun c9 => ?_) (fun c9 => ?_) | refine gz_ge (by omega) (fun c9 => ?_) (fun c9 => ?_)
    · have hm : mk = 0 := by
        by_cases hm : mk = 0
        · exact hm
        · rw [if_neg hm] at hx7; omega
      refine new ?_ x7 hx7
      have hne : ¬ q_bytes P1 nk P2 mk = 0 := fun q => by have := (q_bytes_0.mp q).1; omega
      rw [hp1, decide_eq_true hm, decide_eq_false hne, hbb hm]
      rfl
    have hm : ¬ mk = 0 := fun hm => by rw [if_pos hm] at hx7; omega
    repeat (first | refine gc_n3 rfl ?_ | refine gc_n6 rfl ?_ | refine gc_n7 rfl ?_ | refine gc_n8 rfl ?_ | refine gc_n9 rfl ?_ | refine gc_n2 rfl ?_ | refine gc_n5 rfl ?_ | refine gc_n1 rfl ?_ | refine gi_con ?_ | refine gi_bip (Nat.le_of_ble_eq_true rfl) ?_ | refine gi_sip (Nat.le_of_ble_eq_true rfl) ?_ | refine gi_ldc ?_ | refine gi_add ?_ | refine gi_inc rfl ?_ | refine gi_sub (by omega) ?_ | refine gi_mul ?_ | refine go_nx rfl ?_)
    refine go_step ?_
    refine g_call (k := 8) rfl (by omega) (Nat.le_of_ble_eq_true rfl) rfl ?_
    refine sp_isRight (by omega) r2 ?_
    refine gt_eq (fun c10 => ?_) (fun c10 => ?_)
    · exact b10' (by rw [c10, decide_eq_false hm]; cases q_path P1 nk <;> rfl) x7
    repeat (first | refine gc_n3 rfl ?_ | refine gc_n6 rfl ?_ | refine gc_n7 rfl ?_ | refine gc_n8 rfl ?_ | refine gc_n9 rfl ?_ | refine gc_n2 rfl ?_ | refine gc_n5 rfl ?_ | refine gc_n1 rfl ?_ | refine gi_con ?_ | refine gi_bip (Nat.le_of_ble_eq_true rfl) ?_ | refine gi_sip (Nat.le_of_ble_eq_true rfl) ?_ | refine gi_ldc ?_ | refine gi_add ?_ | refine gi_inc rfl ?_ | refine gi_sub (by omega) ?_ | refine gi_mul ?_ | refine go_nx rfl ?_)
    refine go_step ?_
    refine g_call (k := 13) rfl (by omega) (Nat.le_of_ble_eq_true rfl) rfl ?_
    refine sp_areEqual (by omega) r1 r2 ?_
    refine gt_eq (fun c11 => ?_) (fun c11 => ?_)
    · refine new ?_ x7 hx7
      rw [hp1, c10, decide_eq_false hm, c11]
      rfl
    · repeat (first | refine gc_n3 rfl ?_ | refine gc_n6 rfl ?_ | refine gc_n7 rfl ?_ | refine gc_n8 rfl ?_ | refine gc_n9 rfl ?_ | refine gc_n2 rfl ?_ | refine gc_n5 rfl ?_ | refine gc_n1 rfl ?_ | refine gi_con ?_ | refine gi_bip (Nat.le_of_ble_eq_true rfl) ?_ | refine gi_sip (Nat.le_of_ble_eq_true rfl) ?_ | refine gi_ldc ?_ | refine gi_add ?_ | refine gi_inc rfl ?_ | refine gi_sub (by omega) ?_ | refine gi_mul ?_ | refine go_nx rfl ?_)
      refine go_jp rfl ?_
      refine b10' ?_ x7
      rw [hp1, c10, decide_eq_false hm, c11]
      rfl
  have seven : ∀ x7 : Nat, x7 = (if mk = 0 then 1 else 0) → (mk = 0 → (q_bit hk 2 || q_bit hk 8) = false) → mm_Go E d 3 (mm_blk 3 7) [.ref o, .int (nI ik), .int (nI nk), .int (nI mk), .int (nI hk), .ref h.1, .ref (h.1 + 1), .int (nI x7)] [] hC Q := by
    intro x7 hx7 hbb
    repeat (first | refine gc_n3 rfl ?_ | refine gc_n6 rfl ?_ | refine gc_n7 rfl ?_ | refine gc_n8 rfl ?_ | refine gc_n9 rfl ?_ | refine gc_n2 rfl ?_ | refine gc_n5 rfl ?_ | refine gc_n1 rfl ?_ | refine gi_con ?_ | refine gi_bip (Nat.le_of_ble_eq_true rfl) ?_ | refine gi_sip (Nat.le_of_ble_eq_true rfl) ?_ | refine gi_ldc ?_ | refine gi_add ?_ | refine gi_inc rfl ?_ | refine gi_sub (by omega) ?_ | refine gi_mul ?_ | refine go_nx rfl ?_)
    refine go_step ?_
    refine g_call (k := 8) rfl (by omega) (Nat.le_of_ble_eq_true rfl) rfl ?_
    refine sp_isRight (by omega) r1 ?_
    refine gt_ne (fun c9 => ?_) (fun c9 => ?_)
    · exact nine x7 hx7 c9 hbb
    · repeat (first | refine gc_n3 rfl ?_ | refine gc_n6 rfl ?_ | refine gc_n7 rfl ?_ | refine gc_n8 rfl ?_ | refine gc_n9 rfl ?_ | refine gc_n2 rfl ?_ | refine gc_n5 rfl ?_ | refine gc_n1 rfl ?_ | refine gi_con ?_ | refine gi_bip (Nat.le_of_ble_eq_true rfl) ?_ | refine gi_sip (Nat.le_of_ble_eq_true rfl) ?_ | refine gi_ldc ?_ | refine gi_add ?_ | refine gi_inc rfl ?_ | refine gi_sub (by omega) ?_ | refine gi_mul ?_ | refine go_nx rfl ?_)
      refine go_jp rfl ?_
      exact b8' (by rw [c9]; rfl) x7
  have six : ∀ x7 : Nat, x7 = (if mk = 0 then 1 else 0) → mm_Go E d 3 (mm_blk 3 6) [.ref o, .int (nI ik), .int (nI nk), .int (nI mk), .int (nI hk), .ref h.1, .ref (h.1 + 1), mm_un] [.int (nI x7)] hC Q := by
    intro x7 hx7
    have hx71 : x7 ≤ 1 := by rw [hx7]; split <;> omega
    repeat (first | refine gc_n3 rfl ?_ | refine gc_n6 rfl ?_ | refine gc_n7 rfl ?_ | refine gc_n8 rfl ?_ | refine gc_n9 rfl ?_ | refine gc_n2 rfl ?_ | refine gc_n5 rfl ?_ | refine gc_n1 rfl ?_ | refine gi_con ?_ | refine gi_bip (Nat.le_of_ble_eq_true rfl) ?_ | refine gi_sip (Nat.le_of_ble_eq_true rfl) ?_ | refine gi_ldc ?_ | refine gi_add ?_ | refine gi_inc rfl ?_ | refine gi_sub (by omega) ?_ | refine gi_mul ?_ | refine go_nx rfl ?_)
    first | refine gz_eq (by omega) (fun c9 => ?_) (fun c9 => ?_) | refine gz_ne (by omega) (fun c9 => ?_) (fun c9 => ?_) | refine gz_le (by omega) (fun c9 => ?_) (fun c9 => ?_) | refine gz_gt (by omega) (fun c9 => ?_) (fun c9 => ?_) | refine gz_lt (by omega) (fun c9 => ?_) (fun c9 => ?_) | refine gz_ge (by omega) (fun c9 => ?_) (fun c9 => ?_)
    · have hm : ¬ mk = 0 := fun hm => by rw [if_pos hm] at hx7; omega
      exact seven x7 hx7 (fun q => absurd q hm)
    have hm : mk = 0 := by
      by_cases hm : mk = 0
      · exact hm
      · rw [if_neg hm] at hx7; omega
    repeat (first | refine gc_n3 rfl ?_ | refine gc_n6 rfl ?_ | refine gc_n7 rfl ?_ | refine gc_n8 rfl ?_ | refine gc_n9 rfl ?_ | refine gc_n2 rfl ?_ | refine gc_n5 rfl ?_ | refine gc_n1 rfl ?_ | refine gi_con ?_ | refine gi_bip (Nat.le_of_ble_eq_true rfl) ?_ | refine gi_sip (Nat.le_of_ble_eq_true rfl) ?_ | refine gi_ldc ?_ | refine gi_add ?_ | refine gi_inc rfl ?_ | refine gi_sub (by omega) ?_ | refine gi_mul ?_ | refine go_nx rfl ?_)
    refine gx_ne (fun c10 => ?_) (fun c10 => ?_)
    · refine b8' ?_ x7
      have e8 : (q_bit hk 2 || q_bit hk 8) = true := by
        cases hh : (q_bit hk 2 || q_bit hk 8) with
        | true => rfl
        | false => exact absurd (b10.mpr hh) c10
      rw [e8, decide_eq_true hm]
      cases q_path P1 nk <;> cases decide (q_bytes P1 nk P2 mk = 0) <;> rfl
    · repeat (first | refine gc_n3 rfl ?_ | refine gc_n6 rfl ?_ | refine gc_n7 rfl ?_ | refine gc_n8 rfl ?_ | refine gc_n9 rfl ?_ | refine gc_n2 rfl ?_ | refine gc_n5 rfl ?_ | refine gc_n1 rfl ?_ | refine gi_con ?_ | refine gi_bip (Nat.le_of_ble_eq_true rfl) ?_ | refine gi_sip (Nat.le_of_ble_eq_true rfl) ?_ | refine gi_ldc ?_ | refine gi_add ?_ | refine gi_inc rfl ?_ | refine gi_sub (by omega) ?_ | refine gi_mul ?_ | refine go_nx rfl ?_)
      refine go_jp rfl ?_
      exact seven x7 hx7 (fun _ => b10.mp c10)
  repeat (first | refine gc_n3 rfl ?_ | refine gc_n6 rfl ?_ | refine gc_n7 rfl ?_ | refine gc_n8 rfl ?_ | refine gc_n9 rfl ?_ | refine gc_n2 rfl ?_ | refine gc_n5 rfl ?_ | refine gc_n1 rfl ?_ | refine gi_con ?_ | refine gi_bip (Nat.le_of_ble_eq_true rfl) ?_ | refine gi_sip (Nat.le_of_ble_eq_true rfl) ?_ | refine gi_ldc ?_ | refine gi_add ?_ | refine gi_inc rfl ?_ | refine gi_sub (by omega) ?_ | refine gi_mul ?_ | refine go_nx rfl ?_)
  first | refine gz_eq (by omega) (fun c9 => ?_) (fun c9 => ?_) | refine gz_ne (by omega) (fun c9 => ?_) (fun c9 => ?_) | refine gz_le (by omega) (fun c9 => ?_) (fun c9 => ?_) | refine gz_gt (by omega) (fun c9 => ?_) (fun c9 => ?_) | refine gz_lt (by omega) (fun c9 => ?_) (fun c9 => ?_) | refine gz_ge (by omega) (fun c9 => ?_) (fun c9 => ?_)
  · repeat (first | refine gc_n3 rfl ?_ | refine gc_n6 rfl ?_ | refine gc_n7 rfl ?_ | refine gc_n8 rfl ?_ | refine gc_n9 rfl ?_ | refine gc_n2 rfl ?_ | refine gc_n5 rfl ?_ | refine gc_n1 rfl ?_ | refine gi_con ?_ | refine gi_bip (Nat.le_of_ble_eq_true rfl) ?_ | refine gi_sip (Nat.le_of_ble_eq_true rfl) ?_ | refine gi_ldc ?_ | refine gi_add ?_ | refine gi_inc rfl ?_ | refine gi_sub (by omega) ?_ | refine gi_mul ?_ | refine go_nx rfl ?_)
    refine go_jp rfl ?_
    exact six 0 (by rw [if_neg (by omega)])
  · repeat (first | refine gc_n3 rfl ?_ | refine gc_n6 rfl ?_ | refine gc_n7 rfl ?_ | refine gc_n8 rfl ?_ | refine gc_n9 rfl ?_ | refine gc_n2 rfl ?_ | refine gc_n5 rfl ?_ | refine gc_n1 rfl ?_ | refine gi_con ?_ | refine gi_bip (Nat.le_of_ble_eq_true rfl) ?_ | refine gi_sip (Nat.le_of_ble_eq_true rfl) ?_ | refine gi_ldc ?_ | refine gi_add ?_ | refine gi_inc rfl ?_ | refine gi_sub (by omega) ?_ | refine gi_mul ?_ | refine go_nx rfl ?_)
    refine go_jp rfl ?_
    exact six 1 (by rw [if_pos c9])
end C
