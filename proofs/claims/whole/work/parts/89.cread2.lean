/-! THE CLASS: the contents of a part -/
abbrev qtt : Nat → Bool := fun _ => true
def rdOk (E : mmE) (h : mmH) (r la ed cap : Nat) (Ls : List Nat) (row n : Nat) (B : Nat → Nat) (A : Nat) : Prop := h.2.2 r = some (rdC la row A false) ∧ aL E h la ed cap Ls ∧ hOk E h ∧ bRow h row n B ∧ 2 * Ls.length ≤ A ∧ cap ≤ A + 10
def rdW (r la ed a : Nat) : Nat → Prop := fun b => b = r ∨ b = la ∨ b = ed ∨ b = a
/-- the room that reading from A to A' takes -/
def rdRm (h h' : mmH) (cap cap' A A' : Nat) : Prop := h'.1 + A ≤ h.1 + A' ∧ h'.2.1 + 4 * cap + 6 * A ≤ h.2.1 + 6 * A' + 4 * cap' ∧ A ≤ A' ∧ h.2.1 ≤ h'.2.1
theorem rdRm_t {h h' h'' : mmH} {c c' c'' A A' A'' : Nat} (h1 : rdRm h h' c c' A A') (h2 : rdRm h' h'' c' c'' A' A'') : rdRm h h'' c c'' A A'' := by
  obtain ⟨a1, a2, a3, a4⟩ := h1
  obtain ⟨b1, b2, b3, b4⟩ := h2
  exact ⟨by omega, by omega, by omega, by omega⟩
def rdNew (h h' : mmH) (N : Nat → Nat) (P : List Nat) : Prop := (∀ x ∈ P, h.1 ≤ N x ∧ N x < h'.1) ∧ ∀ x ∈ P, ∀ y ∈ P, N x = N y → x = y
def q_sub2 (B : Nat → Nat) (k p : Nat) : List Nat := if B p = 3 ∨ B p = 4 then q_pre B k (q_val B p) else []
/-- what readParts does -/
def RPs (E : mmE) (d row n : Nat) (B : Nat → Nat) (k : Nat) : Prop := ∀ (h : mmH) (r la ed cap : Nat) (Ls : List Nat) (w : Nat) (fsw : List Value) (v lim : Nat) (N : Nat → Nat) (wk : Nat) (Q : Option Value → mmH → Prop),
  rdOk E h r la ed cap Ls row n B v → h.2.2 w = some (.inr (4, fsw)) → fsw.length = 12 → fsw[1]? = some (.int (nI wk)) → (wk = 3 ∨ wk = 4) → fsw[9]? = some .null → v ≤ lim → lim ≤ n →
  (∀ h' N' ed' cap', q_box qtt B k v lim (decide (wk = 4)) = true → (∀ q, q < v → N' q = N q) → nBox h' row B N' (fun _ => 0) k v → rdNew h h' N' (q_pre B k v) → rdOk E h' r la ed' cap' (Ls ++ (q_pre B k v).map N') row n B (v + q_sz B v) → h'.2.2 w = some (.inr (4, fsw.set 9 (if v + 4 < q_last B v then .ref (N' (v + 4)) else .null))) → hFr h h' (rdW r la ed w) → rdRm h h' cap cap' v (v + q_sz B v) → (ed' = ed ∨ h.1 ≤ ed') → Q none h') →
  (∀ h' A' cap' fi, q_box qtt B k v lim (decide (wk = 4)) = false → h'.2.2 r = some (rdC la row A' true) → A' ≤ lim → hOk E h' → hFr h h' (rdW r la ed w) → rdRm h h' cap cap' v A' → cap' ≤ A' + 10 → h'.2.2 w = some (.inr (4, fsw.set 9 fi)) → Q none h') →
  mm_Go E d 37 (mm_blk 37 0) [.ref r, .ref w, .int (nI lim), .int (nI (17 - k)), mm_un, mm_un, mm_un, mm_un, mm_un, mm_un] [] h Q
section C
variable {E : mmE} {d : Nat} {h : mmH} {Q : Option Value → mmH → Prop} {r la ed cap row n A : Nat} {Ls : List Nat} {B N : Nat → Nat}
theorem aL_fr {h' : mmH} {a : Nat} {ed cap : Nat} {Ls : List Nat} (ha : aL E h a ed cap Ls) (h1 : h'.2.2 a = h.2.2 a) (h2 : (∃ x, h.2.2 ed = some (.inl x)) → h'.2.2 ed = h.2.2 ed) : aL E h' a ed cap Ls := by
  obtain ⟨⟨mc, g1⟩, g2, g3⟩ := ha
  refine ⟨⟨mc, by rw [h1]; exact g1⟩, ?_, g3⟩
  rcases g2 with g2 | ⟨k1, k2, f, k3, k4⟩
  · exact Or.inl g2
  · exact Or.inr ⟨k1, k2, f, by rw [h2 ⟨_, k3⟩]; exact k3, k4⟩
/-- a change of the reader and of one node leaves the list and the row -/
theorem rd_two {a : Nat} {c : List Value} {c' : List Value} {A' : Nat} {w' : Bool} (hr : rdOk E h r la ed cap Ls row n B A) (ha : h.2.2 a = some (.inr (4, c))) : hOk E (mm_set (mm_set h a (.inr (4, c'))) r (rdC la row A' w')) ∧ aL E (mm_set (mm_set h a (.inr (4, c'))) r (rdC la row A' w')) la ed cap Ls ∧ bRow (mm_set (mm_set h a (.inr (4, c'))) r (rdC la row A' w')) row n B ∧ hFr h (mm_set (mm_set h a (.inr (4, c'))) r (rdC la row A' w')) (rdW r la ed a) ∧ (mm_set (mm_set h a (.inr (4, c'))) r (rdC la row A' w')).2.2 r = some (rdC la row A' w') ∧ (mm_set (mm_set h a (.inr (4, c'))) r (rdC la row A' w')).2.2 a = some (.inr (4, c')) := by
  obtain ⟨h1, h2, h3, h4, h5, h6⟩ := hr
  have h1' : h.2.2 r = some (.inr (2, [.ref la, .ref row, .int (nI A), .int (q_t false)])) := h1
  have hra : r ≠ a := fun q => by rw [q, ha] at h1'; cases h1'
  obtain ⟨mc, g1⟩ := h2.1
  have hlr : la ≠ r := fun q => by rw [q, h1'] at g1; cases g1
  have hla : la ≠ a := fun q => by rw [q, ha] at g1; cases g1
  have hr2 : (mm_set h a (.inr (4, c'))).2.2 r = some (.inr (2, [.ref la, .ref row, .int (nI A), .int (q_t false)])) := by rw [hs_ne hra]; exact h1'
  refine ⟨hOk_set2 (hOk_set2 h3 ha) hr2, aL_fr h2 (by rw [hs_ne hlr, hs_ne hla]) (fun ⟨x, hx⟩ => ?_), bRow_set (bRow_set h4 ha) hr2, hFr_set2 (hFr_set (Or.inr (Or.inr (Or.inr rfl)))) (Or.inl (Or.inl rfl)), hs_at, by rw [hs_ne (Ne.symm hra)]; exact hs_at⟩
  rw [hs_ne (fun q => by rw [q, h1'] at hx; cases hx), hs_ne (fun q => by rw [q, ha] at hx; cases hx)]
theorem sp_rcontent {p a lim k : Nat} (hd : 4 ≤ d) (hr : rdOk E h r la ed cap Ls row n B (q_val B p)) (ha : h.2.2 a = some (nCell row B p 0 0 0 .null .null 0)) (hA : q_val B p ≤ lim) (hl : lim ≤ n) (hk : k ≤ 16) (hIH : RPs E (d - 1) row n B k)
    (hS : ∀ h' N' ed' cap', q_vok (q_box qtt B k) B p lim = true → (∀ q, q < q_val B p → N' q = N q) → (B p = 3 ∨ B p = 4 → nBox h' row B N' (fun _ => 0) k (q_val B p)) → rdNew h h' N' (q_sub2 B k p) → rdOk E h' r la ed' cap' (Ls ++ (q_sub2 B k p).map N') row n B (q_next B p) → h'.2.2 a = some (nCell row B p (q_tf B p) (q_tt B p) (q_nu B p) (q_fi B N' p) .null 0) → hFr h h' (rdW r la ed a) → rdRm h h' cap cap' (q_val B p) (q_next B p) → (ed' = ed ∨ h.1 ≤ ed') → Q none h')
    (hF : ∀ h' A' cap' tf tt num fi, q_vok (q_box qtt B k) B p lim = false → h'.2.2 r = some (rdC la row A' true) → A' ≤ lim → hOk E h' → hFr h h' (rdW r la ed a) → rdRm h h' cap cap' (q_val B p) A' → cap' ≤ A' + 10 → h'.2.2 a = some (nCell row B p tf tt num fi .null 0) → Q none h') : mm_Go E d 48 (mm_blk 48 0) [.ref r, .ref a, .int (nI lim), .int (nI (17 - (k + 1)))] [] h Q := by
  have hr0 := hr
  obtain ⟨h1, h2, h3, h4, h5, h6⟩ := hr
  have hn := h4.1
  have hBp := h4.2.2.1 p
  have h1' : h.2.2 r = some (.inr (2, [.ref la, .ref row, .int (nI (q_val B p)), .int (q_t false)])) := h1
  have ha0 : h.2.2 a = some (.inr (4, [.ref row, .int (nI (B p)), .int (nI p), .int (nI (q_ne B p)), .int (nI (q_word B p)), .int (nI (q_cls (B p))), .int 0, .int 0, .long 0, .null, .null, .int 0])) := ha
  have hra : r ≠ a := fun q => by rw [q, ha0] at h1'; cases h1'
  /- what the plain kinds end with -/
  have okP : ∀ (tf tt : Int32) (num : Int64), q_vok (q_box qtt B k) B p lim = true → ¬ (B p = 3 ∨ B p = 4) → tf = q_tf B p → tt = q_tt B p → num = q_nu B p → Q none (mm_set (mm_set h a (nCell row B p tf tt num .null .null 0)) r (rdC la row (q_next B p) false)) := by
    intro tf tt num hv h34 e1 e2 e3
    obtain ⟨g1, g2, g3, g4, g5, g6⟩ := rd_two (A' := q_next B p) (w' := false) (c' := [.ref row, .int (nI (B p)), .int (nI p), .int (nI (q_ne B p)), .int (nI (q_word B p)), .int (nI (q_cls (B p))), .int tf, .int tt, .long num, .null, .null, .int 0]) hr0 ha0
    have hsub : q_sub2 B k p = [] := if_neg h34
    have hnx : q_val B p ≤ q_next B p := by unfold q_next; omega
    refine hS _ N ed cap hv (fun _ _ => rfl) (fun q => absurd q h34) ?_ ?_ ?_ g4 ⟨by show h.1 + q_val B p ≤ h.1 + q_next B p; omega, by show h.2.1 + 4 * cap + 6 * q_val B p ≤ h.2.1 + 6 * q_next B p + 4 * cap; omega, hnx, Nat.le_refl _⟩ (Or.inl rfl)
    · rw [hsub]
      exact ⟨fun x hx => absurd hx List.not_mem_nil, fun x hx => absurd hx List.not_mem_nil⟩
    · rw [hsub]
      show rdOk E _ r la ed cap (Ls ++ []) row n B (q_next B p)
      rw [List.append_nil]
      exact ⟨g5, g2, g1, g3, by omega, by omega⟩
    · rw [← e1, ← e2, ← e3, show q_fi B N p = .null from if_neg (fun q => h34 q.1)]
      exact g6
  have badP : ∀ (A' : Nat) (tf tt : Int32) (num : Int64), q_vok (q_box qtt B k) B p lim = false → q_val B p ≤ A' → A' ≤ lim → Q none (mm_set (mm_set h a (nCell row B p tf tt num .null .null 0)) r (rdC la row A' true)) := by
    intro A' tf tt num hv hA1 hA2
    obtain ⟨g1, g2, g3, g4, g5, g6⟩ := rd_two (A' := A') (w' := true) (c' := [.ref row, .int (nI (B p)), .int (nI p), .int (nI (q_ne B p)), .int (nI (q_word B p)), .int (nI (q_cls (B p))), .int tf, .int tt, .long num, .null, .null, .int 0]) hr0 ha0
    exact hF _ A' cap tf tt num .null hv g5 hA2 g1 g4 ⟨by show h.1 + q_val B p ≤ h.1 + A'; omega, by show h.2.1 + 4 * cap + 6 * q_val B p ≤ h.2.1 + 6 * A' + 4 * cap; omega, hA1, Nat.le_refl _⟩ (by omega) g6
  /- the order of the two changes -/
  have swap : ∀ (c1 c2 : mmC), mm_set (mm_set h r c1) a c2 = mm_set (mm_set h a c2) r c1 := by
    intro c1 c2
    unfold mm_set
    refine Prod.ext rfl (Prod.ext rfl ?_)
    funext z
    show va_up (va_up h.2.2 r _) a _ z = va_up (va_up h.2.2 a _) r _ z
    unfold va_up
    by_cases e1 : z = r
    · subst e1
      rw [if_neg hra, if_pos rfl, if_pos rfl]
    · rw [if_neg e1, if_neg e1]
  have tab : ∀ x, x < 256 → mm_sw 10 2 [8, 9, 9, 10, 10, 10, 3, 10, 7, 10, 10, 10, 10, 10, 1, 10, 2] (nI x) = (if x = 16 then 1 else if x = 18 then 2 else if x = 8 then 3 else if x = 10 then 7 else if x = 2 then 8 else if x = 3 ∨ x = 4 then 9 else 10) := by decide +kernel
  repeat (first | refine gi_con ?_ | refine gi_bip (Nat.le_of_ble_eq_true rfl) ?_ | refine gi_sip (Nat.le_of_ble_eq_true rfl) ?_ | refine gi_ldc ?_ | refine gi_add ?_ | refine gi_inc rfl ?_ | refine gi_sub (by omega) ?_ | refine gi_mul ?_ | refine go_nx rfl ?_)
  refine gf_get _ ha0 (by decide) rfl ?_
  refine go_jp rfl ?_
  show mm_Go E d 48 (mm_blk 48 (mm_sw 10 2 [8, 9, 9, 10, 10, 10, 3, 10, 7, 10, 10, 10, 10, 10, 1, 10, 2] (nI (B p)))) _ _ _ _
  rw [tab (B p) hBp]
  have q16 := q_le_4 B (q_val B p)
  have q18 := q_le_8 B (q_val B p)
  have q08 := q_le_1 B (q_val B p)
  have enx : q_next B p = q_val B p + q_ln B (B p) (q_val B p) := rfl
  by_cases k16 : B p = 16
  · rw [if_pos k16]
    have ev : q_vok (q_box qtt B k) B p lim = decide (q_val B p + 4 ≤ lim) := by unfold q_vok; rw [if_pos k16]
    have el : q_ln B (B p) (q_val B p) = 4 := by unfold q_ln; rw [if_pos k16]
    repeat (first | refine gi_con ?_ | refine gi_bip (Nat.le_of_ble_eq_true rfl) ?_ | refine gi_sip (Nat.le_of_ble_eq_true rfl) ?_ | refine gi_ldc ?_ | refine gi_add ?_ | refine gi_inc rfl ?_ | refine gi_sub (by omega) ?_ | refine gi_mul ?_ | refine go_nx rfl ?_)
    refine go_step ?_
    refine g_callV (by decide) (by decide) (Nat.le_of_ble_eq_true rfl) (Nat.le_of_ble_eq_true rfl) (o_rcv h1' rfl (by decide)) (by omega) (Nat.le_of_ble_eq_true rfl) rfl ?_
    refine sp_rnum (by omega) h1 h4 hA (by omega) (by omega) (fun hle => ?_) (fun hlt => ?_)
    · rw [q16]
      repeat (first | refine gi_con ?_ | refine gi_bip (Nat.le_of_ble_eq_true rfl) ?_ | refine gi_sip (Nat.le_of_ble_eq_true rfl) ?_ | refine gi_ldc ?_ | refine gi_add ?_ | refine gi_inc rfl ?_ | refine gi_sub (by omega) ?_ | refine gi_mul ?_ | refine go_nx rfl ?_)
      rw [lN_i]
      refine gc_put (fs' := [.ref row, .int (nI (B p)), .int (nI p), .int (nI (q_ne B p)), .int (nI (q_word B p)), .int (nI (q_cls (B p))), .int 0, .int 0, .long (nI (q_sz B (q_val B p))).toInt64, .null, .null, .int 0]) (by rw [hs_ne (Ne.symm hra)]; exact ha0) rfl (Nat.le_of_ble_eq_true rfl) rfl rfl ?_
      rw [swap]
      refine go_jp rfl ?_
      refine go_rt rfl ?_
      have := okP 0 0 (nI (q_sz B (q_val B p))).toInt64 (by rw [ev, decide_eq_true hle]) (by omega) (by unfold q_tf; rw [if_neg (by omega)]) (by unfold q_tt; rw [if_neg (by omega)]) (by unfold q_nu q_num; rw [if_pos (Or.inl k16), if_pos k16])
      rw [enx, el] at this
      exact this
    · repeat (first | refine gi_con ?_ | refine gi_bip (Nat.le_of_ble_eq_true rfl) ?_ | refine gi_sip (Nat.le_of_ble_eq_true rfl) ?_ | refine gi_ldc ?_ | refine gi_add ?_ | refine gi_inc rfl ?_ | refine gi_sub (by omega) ?_ | refine gi_mul ?_ | refine go_nx rfl ?_)
      refine gc_put (fs' := [.ref row, .int (nI (B p)), .int (nI p), .int (nI (q_ne B p)), .int (nI (q_word B p)), .int (nI (q_cls (B p))), .int 0, .int 0, .long ((lN 0).toInt32).toInt64, .null, .null, .int 0]) (by rw [hs_ne (Ne.symm hra)]; exact ha0) rfl (Nat.le_of_ble_eq_true rfl) rfl rfl ?_
      rw [swap]
      refine go_jp rfl ?_
      refine go_rt rfl ?_
      exact badP _ _ _ _ (by rw [ev, decide_eq_false (by omega)]) (Nat.le_refl _) hA
  rw [if_neg k16]
  by_cases k18 : B p = 18
  · rw [if_pos k18]
    have ev : q_vok (q_box qtt B k) B p lim = decide (q_val B p + 8 ≤ lim) := by unfold q_vok; rw [if_neg k16, if_pos k18]
    have el : q_ln B (B p) (q_val B p) = 8 := by unfold q_ln; rw [if_neg k16, if_pos k18]
    repeat (first | refine gi_con ?_ | refine gi_bip (Nat.le_of_ble_eq_true rfl) ?_ | refine gi_sip (Nat.le_of_ble_eq_true rfl) ?_ | refine gi_ldc ?_ | refine gi_add ?_ | refine gi_inc rfl ?_ | refine gi_sub (by omega) ?_ | refine gi_mul ?_ | refine go_nx rfl ?_)
    refine go_step ?_
    refine g_callV (by decide) (by decide) (Nat.le_of_ble_eq_true rfl) (Nat.le_of_ble_eq_true rfl) (o_rcv h1' rfl (by decide)) (by omega) (Nat.le_of_ble_eq_true rfl) rfl ?_
    refine sp_rnum (by omega) h1 h4 hA (by omega) (by omega) (fun hle => ?_) (fun hlt => ?_)
    · rw [q18]
      repeat (first | refine gi_con ?_ | refine gi_bip (Nat.le_of_ble_eq_true rfl) ?_ | refine gi_sip (Nat.le_of_ble_eq_true rfl) ?_ | refine gi_ldc ?_ | refine gi_add ?_ | refine gi_inc rfl ?_ | refine gi_sub (by omega) ?_ | refine gi_mul ?_ | refine go_nx rfl ?_)
      refine gc_put (fs' := [.ref row, .int (nI (B p)), .int (nI p), .int (nI (q_ne B p)), .int (nI (q_word B p)), .int (nI (q_cls (B p))), .int 0, .int 0, .long (lN (q_sz B (q_val B p) + 4294967296 * q_sz B (q_val B p + 4))), .null, .null, .int 0]) (by rw [hs_ne (Ne.symm hra)]; exact ha0) rfl (Nat.le_of_ble_eq_true rfl) rfl rfl ?_
      rw [swap]
      refine go_jp rfl ?_
      refine go_rt rfl ?_
      have := okP 0 0 (lN (q_sz B (q_val B p) + 4294967296 * q_sz B (q_val B p + 4))) (by rw [ev, decide_eq_true hle]) (by omega) (by unfold q_tf; rw [if_neg (by omega)]) (by unfold q_tt; rw [if_neg (by omega)]) (by unfold q_nu q_num; rw [if_pos (Or.inr (Or.inl k18)), if_neg (by omega), if_neg (by omega)])
      rw [enx, el] at this
      exact this
    · repeat (first | refine gi_con ?_ | refine gi_bip (Nat.le_of_ble_eq_true rfl) ?_ | refine gi_sip (Nat.le_of_ble_eq_true rfl) ?_ | refine gi_ldc ?_ | refine gi_add ?_ | refine gi_inc rfl ?_ | refine gi_sub (by omega) ?_ | refine gi_mul ?_ | refine go_nx rfl ?_)
      refine gc_put (fs' := [.ref row, .int (nI (B p)), .int (nI p), .int (nI (q_ne B p)), .int (nI (q_word B p)), .int (nI (q_cls (B p))), .int 0, .int 0, .long (lN 0), .null, .null, .int 0]) (by rw [hs_ne (Ne.symm hra)]; exact ha0) rfl (Nat.le_of_ble_eq_true rfl) rfl rfl ?_
      rw [swap]
      refine go_jp rfl ?_
      refine go_rt rfl ?_
      exact badP _ _ _ _ (by rw [ev, decide_eq_false (by omega)]) (Nat.le_refl _) hA
  rw [if_neg k18]
  by_cases k8 : B p = 8
  · rw [if_pos k8]
    have ev : q_vok (q_box qtt B k) B p lim = (decide (q_val B p + 1 ≤ lim) && decide (B (q_val B p) < 2)) := by unfold q_vok; rw [if_neg k16, if_neg k18, if_pos k8]
    have el : q_ln B (B p) (q_val B p) = 1 := by unfold q_ln; rw [if_neg k16, if_neg k18, if_pos k8]
    have hbv := h4.2.2.1 (q_val B p)
    have six : ∀ (A' : Nat) (w0 b : Bool) (num : Int64), (b = false → A' = q_next B p ∧ q_vok (q_box qtt B k) B p lim = true ∧ num = q_nu B p) → (b = true → q_vok (q_box qtt B k) B p lim = false ∧ q_val B p ≤ A' ∧ A' ≤ lim) → mm_Go E d 48 (mm_blk 48 6) [.ref r, .ref a, .int (nI lim), .int (nI (17 - (k + 1)))] [.int (q_t b), .ref r] (mm_set (mm_set h a (nCell row B p 0 0 num .null .null 0)) r (rdC la row A' w0)) Q := by
      intro A' w0 b num hb1 hb2
      have hcr : (mm_set (mm_set h a (nCell row B p 0 0 num .null .null 0)) r (rdC la row A' w0)).2.2 r = some (.inr (2, [.ref la, .ref row, .int (nI A'), .int (q_t w0)])) := hs_at
      refine gc_put (fs' := [.ref la, .ref row, .int (nI A'), .int (q_t b)]) hcr rfl (Nat.le_of_ble_eq_true rfl) (by cases b <;> rfl) rfl ?_
      rw [hs_set]
      refine go_jp rfl ?_
      refine go_rt rfl ?_
      cases b with
      | false =>
        obtain ⟨e1, e2, e3⟩ := hb1 rfl
        rw [e1]
        exact okP 0 0 num e2 (by omega) (by unfold q_tf; rw [if_neg (by omega)]) (by unfold q_tt; rw [if_neg (by omega)]) e3
      | true =>
        obtain ⟨e1, e2, e3⟩ := hb2 rfl
        exact badP _ _ _ _ e1 e2 e3
    repeat (first | refine gi_con ?_ | refine gi_bip (Nat.le_of_ble_eq_true rfl) ?_ | refine gi_sip (Nat.le_of_ble_eq_true rfl) ?_ | refine gi_ldc ?_ | refine gi_add ?_ | refine gi_inc rfl ?_ | refine gi_sub (by omega) ?_ | refine gi_mul ?_ | refine go_nx rfl ?_)
    refine go_step ?_
    refine g_callV (by decide) (by decide) (Nat.le_of_ble_eq_true rfl) (Nat.le_of_ble_eq_true rfl) (o_rcv h1' rfl (by decide)) (by omega) (Nat.le_of_ble_eq_true rfl) rfl ?_
    refine sp_rnum (by omega) h1 h4 hA (by omega) (by omega) (fun hle => ?_) (fun hlt => ?_)
    · rw [q08]
      repeat (first | refine gi_con ?_ | refine gi_bip (Nat.le_of_ble_eq_true rfl) ?_ | refine gi_sip (Nat.le_of_ble_eq_true rfl) ?_ | refine gi_ldc ?_ | refine gi_add ?_ | refine gi_inc rfl ?_ | refine gi_sub (by omega) ?_ | refine gi_mul ?_ | refine go_nx rfl ?_)
      refine gc_put (fs' := [.ref row, .int (nI (B p)), .int (nI p), .int (nI (q_ne B p)), .int (nI (q_word B p)), .int (nI (q_cls (B p))), .int 0, .int 0, .long (lN (B (q_val B p))), .null, .null, .int 0]) (by rw [hs_ne (Ne.symm hra)]; exact ha0) rfl (Nat.le_of_ble_eq_true rfl) rfl rfl ?_
      rw [swap]
      have hcr : (mm_set (mm_set h a (.inr (4, [.ref row, .int (nI (B p)), .int (nI p), .int (nI (q_ne B p)), .int (nI (q_word B p)), .int (nI (q_cls (B p))), .int 0, .int 0, .long (lN (B (q_val B p))), .null, .null, .int 0]))) r (rdC la row (q_val B p + 1) false)).2.2 r = some (.inr (2, [.ref la, .ref row, .int (nI (q_val B p + 1)), .int (q_t false)])) := hs_at
      have hca : (mm_set (mm_set h a (.inr (4, [.ref row, .int (nI (B p)), .int (nI p), .int (nI (q_ne B p)), .int (nI (q_word B p)), .int (nI (q_cls (B p))), .int 0, .int 0, .long (lN (B (q_val B p))), .null, .null, .int 0]))) r (rdC la row (q_val B p + 1) false)).2.2 a = some (.inr (4, [.ref row, .int (nI (B p)), .int (nI p), .int (nI (q_ne B p)), .int (nI (q_word B p)), .int (nI (q_cls (B p))), .int 0, .int 0, .long (lN (B (q_val B p))), .null, .null, .int 0])) := by rw [hs_ne (Ne.symm hra)]; exact hs_at
      repeat (first | refine gi_con ?_ | refine gi_bip (Nat.le_of_ble_eq_true rfl) ?_ | refine gi_sip (Nat.le_of_ble_eq_true rfl) ?_ | refine gi_ldc ?_ | refine gi_add ?_ | refine gi_inc rfl ?_ | refine gi_sub (by omega) ?_ | refine gi_mul ?_ | refine go_nx rfl ?_)
      refine gf_get _ hcr (by decide) rfl ?_
      refine gt_ne (fun c => by cases c) (fun _ => ?_)
      repeat (first | refine gi_con ?_ | refine gi_bip (Nat.le_of_ble_eq_true rfl) ?_ | refine gi_sip (Nat.le_of_ble_eq_true rfl) ?_ | refine gi_ldc ?_ | refine gi_add ?_ | refine gi_inc rfl ?_ | refine gi_sub (by omega) ?_ | refine gi_mul ?_ | refine go_nx rfl ?_)
      refine gf_get _ hca (by decide) rfl ?_
      repeat (first | refine gi_con ?_ | refine gi_bip (Nat.le_of_ble_eq_true rfl) ?_ | refine gi_sip (Nat.le_of_ble_eq_true rfl) ?_ | refine gi_ldc ?_ | refine gi_add ?_ | refine gi_inc rfl ?_ | refine gi_sub (by omega) ?_ | refine gi_mul ?_ | refine go_nx rfl ?_)
      refine gl_le (fun c3 => ?_) (fun c3 => ?_)
      · have hlt2 : B (q_val B p) ≤ 1 := (pk_lLE (a := B (q_val B p)) (b := 1) (by omega) (by decide)).mp c3
        repeat (first | refine gi_con ?_ | refine gi_bip (Nat.le_of_ble_eq_true rfl) ?_ | refine gi_sip (Nat.le_of_ble_eq_true rfl) ?_ | refine gi_ldc ?_ | refine gi_add ?_ | refine gi_inc rfl ?_ | refine gi_sub (by omega) ?_ | refine gi_mul ?_ | refine go_nx rfl ?_)
        refine go_jp rfl ?_
        exact six _ false false _ (fun _ => ⟨by rw [enx, el], by rw [ev, decide_eq_true hle, decide_eq_true (by omega)]; rfl, by unfold q_nu q_num; rw [if_pos (Or.inr (Or.inr k8)), if_neg (by omega), if_pos k8]⟩) (fun q => by cases q)
      · have hlt2 : 1 < B (q_val B p) := (pk_lLT (a := 1) (b := B (q_val B p)) (by decide) (by omega)).mp c3
        refine go_jp rfl ?_
        repeat (first | refine gi_con ?_ | refine gi_bip (Nat.le_of_ble_eq_true rfl) ?_ | refine gi_sip (Nat.le_of_ble_eq_true rfl) ?_ | refine gi_ldc ?_ | refine gi_add ?_ | refine gi_inc rfl ?_ | refine gi_sub (by omega) ?_ | refine gi_mul ?_ | refine go_nx rfl ?_)
        refine go_jp rfl ?_
        exact six _ false true _ (fun q => by cases q) (fun _ => ⟨by rw [ev, decide_eq_false (show ¬ B (q_val B p) < 2 by omega), Bool.and_false], by omega, hle⟩)
    · repeat (first | refine gi_con ?_ | refine gi_bip (Nat.le_of_ble_eq_true rfl) ?_ | refine gi_sip (Nat.le_of_ble_eq_true rfl) ?_ | refine gi_ldc ?_ | refine gi_add ?_ | refine gi_inc rfl ?_ | refine gi_sub (by omega) ?_ | refine gi_mul ?_ | refine go_nx rfl ?_)
      refine gc_put (fs' := [.ref row, .int (nI (B p)), .int (nI p), .int (nI (q_ne B p)), .int (nI (q_word B p)), .int (nI (q_cls (B p))), .int 0, .int 0, .long (lN 0), .null, .null, .int 0]) (by rw [hs_ne (Ne.symm hra)]; exact ha0) rfl (Nat.le_of_ble_eq_true rfl) rfl rfl ?_
      rw [swap]
      have hcr : (mm_set (mm_set h a (.inr (4, [.ref row, .int (nI (B p)), .int (nI p), .int (nI (q_ne B p)), .int (nI (q_word B p)), .int (nI (q_cls (B p))), .int 0, .int 0, .long (lN 0), .null, .null, .int 0]))) r (rdC la row (q_val B p) true)).2.2 r = some (.inr (2, [.ref la, .ref row, .int (nI (q_val B p)), .int (q_t true)])) := hs_at
      repeat (first | refine gi_con ?_ | refine gi_bip (Nat.le_of_ble_eq_true rfl) ?_ | refine gi_sip (Nat.le_of_ble_eq_true rfl) ?_ | refine gi_ldc ?_ | refine gi_add ?_ | refine gi_inc rfl ?_ | refine gi_sub (by omega) ?_ | refine gi_mul ?_ | refine go_nx rfl ?_)
      refine gf_get _ hcr (by decide) rfl ?_
      refine gt_ne (fun _ => ?_) (fun c => by cases c)
      repeat (first | refine gi_con ?_ | refine gi_bip (Nat.le_of_ble_eq_true rfl) ?_ | refine gi_sip (Nat.le_of_ble_eq_true rfl) ?_ | refine gi_ldc ?_ | refine gi_add ?_ | refine gi_inc rfl ?_ | refine gi_sub (by omega) ?_ | refine gi_mul ?_ | refine go_nx rfl ?_)
      refine go_jp rfl ?_
      exact six _ true true _ (fun q => by cases q) (fun _ => ⟨by rw [ev, decide_eq_false (show ¬ q_val B p + 1 ≤ lim by omega)]; rfl, Nat.le_refl _, hA⟩)
  rw [if_neg k8]
  by_cases k10 : B p = 10
  · rw [if_pos k10]
    have ev : q_vok (q_box qtt B k) B p lim = true := by unfold q_vok; rw [if_neg k16, if_neg k18, if_neg k8, if_neg (by omega), if_pos k10]
    have el : q_ln B (B p) (q_val B p) = 0 := by unfold q_ln; rw [if_neg k16, if_neg k18, if_neg k8, if_neg (by omega), if_neg (by omega)]
    refine go_jp rfl ?_
    refine go_rt rfl ?_
    have := okP 0 0 0 ev (by omega) (by unfold q_tf; rw [if_neg (by omega)]) (by unfold q_tt; rw [if_neg (by omega)]) (by unfold q_nu; rw [if_neg (by omega)])
    rw [enx, el] at this
    have e : mm_set (mm_set h a (nCell row B p 0 0 0 .null .null 0)) r (rdC la row (q_val B p + 0) false) = h := by
      unfold mm_set
      refine Prod.ext rfl (Prod.ext rfl ?_)
      funext z
      show va_up (va_up h.2.2 a _) r _ z = h.2.2 z
      unfold va_up
      by_cases e1 : z = r
      · rw [if_pos e1, e1, h1]
        rfl
      · rw [if_neg e1]
        by_cases e2 : z = a
        · rw [if_pos e2, e2, ha]
        · rw [if_neg e2]
    rw [e] at this
    exact this
  rw [if_neg k10]
  by_cases k2 : B p = 2
  · rw [if_pos k2]
    have ev : q_vok (q_box qtt B k) B p lim = q_vok (fun _ _ _ => true) B p lim := by unfold q_vok; rw [if_neg k16, if_neg k18, if_neg k8, if_pos k2, if_neg k16, if_neg k18, if_neg k8, if_pos k2]
    repeat (first | refine gi_con ?_ | refine gi_bip (Nat.le_of_ble_eq_true rfl) ?_ | refine gi_sip (Nat.le_of_ble_eq_true rfl) ?_ | refine gi_ldc ?_ | refine gi_add ?_ | refine gi_inc rfl ?_ | refine gi_sub (by omega) ?_ | refine gi_mul ?_ | refine go_nx rfl ?_)
    refine go_step ?_
    refine g_callV (by decide) (by decide) (Nat.le_of_ble_eq_true rfl) (Nat.le_of_ble_eq_true rfl) (o_rcv h1' rfl (by decide)) (by omega) (Nat.le_of_ble_eq_true rfl) rfl ?_
    refine sp_rtext (by omega) h1 h4 hA (by omega) ha k2 (fun hv => ?_) (fun hv A' tf tt hA1 hA2 => ?_)
    · repeat (first | refine gi_con ?_ | refine gi_bip (Nat.le_of_ble_eq_true rfl) ?_ | refine gi_sip (Nat.le_of_ble_eq_true rfl) ?_ | refine gi_ldc ?_ | refine gi_add ?_ | refine gi_inc rfl ?_ | refine gi_sub (by omega) ?_ | refine gi_mul ?_ | refine go_nx rfl ?_)
      refine go_jp rfl ?_
      refine go_rt rfl ?_
      exact okP _ _ _ (by rw [ev]; exact hv) (by omega) rfl rfl (by unfold q_nu; rw [if_neg (by omega)])
    · repeat (first | refine gi_con ?_ | refine gi_bip (Nat.le_of_ble_eq_true rfl) ?_ | refine gi_sip (Nat.le_of_ble_eq_true rfl) ?_ | refine gi_ldc ?_ | refine gi_add ?_ | refine gi_inc rfl ?_ | refine gi_sub (by omega) ?_ | refine gi_mul ?_ | refine go_nx rfl ?_)
      refine go_jp rfl ?_
      refine go_rt rfl ?_
      exact badP _ _ _ _ (by rw [ev]; exact hv) hA1 hA2
  rw [if_neg k2]
  by_cases k34 : B p = 3 ∨ B p = 4
  · rw [if_pos k34]
    have ev : q_vok (q_box qtt B k) B p lim = q_box qtt B k (q_val B p) lim (decide (B p = 4)) := by
      unfold q_vok
      rw [if_neg k16, if_neg k18, if_neg k8, if_neg k2, if_neg k10]
      rcases k34 with k3 | k4
      · rw [if_pos k3, decide_eq_false (by omega)]
      · rw [if_neg (by omega), if_pos k4, decide_eq_true k4]
    have el : q_ln B (B p) (q_val B p) = q_sz B (q_val B p) := by unfold q_ln; rw [if_neg k16, if_neg k18, if_neg k8, if_neg k2, if_pos k34]
    have hsub : q_sub2 B k p = q_pre B k (q_val B p) := if_pos k34
    repeat (first | refine gi_con ?_ | refine gi_bip (Nat.le_of_ble_eq_true rfl) ?_ | refine gi_sip (Nat.le_of_ble_eq_true rfl) ?_ | refine gi_ldc ?_ | refine gi_add ?_ | refine gi_inc rfl ?_ | refine gi_sub (by omega) ?_ | refine gi_mul ?_ | refine go_nx rfl ?_)
    refine go_step ?_
    refine g_callV (by decide) (by decide) (Nat.le_of_ble_eq_true rfl) (Nat.le_of_ble_eq_true rfl) (o_rcv h1' rfl (by decide)) (by omega) (Nat.le_of_ble_eq_true rfl) rfl ?_
    rw [show 17 - (k + 1) + 1 = 17 - k by omega]
    refine hIH h r la ed cap Ls a _ (q_val B p) lim N (B p) _ hr0 ha0 rfl rfl k34 rfl hA hl (fun h' N' ed' cap' hv c1 c2 c3 c4 c5 c6 c7 c8 => ?_) (fun h' A' cap' fi hv c1 c2 c3 c4 c5 c6 c7 => ?_)
    · repeat (first | refine gi_con ?_ | refine gi_bip (Nat.le_of_ble_eq_true rfl) ?_ | refine gi_sip (Nat.le_of_ble_eq_true rfl) ?_ | refine gi_ldc ?_ | refine gi_add ?_ | refine gi_inc rfl ?_ | refine gi_sub (by omega) ?_ | refine gi_mul ?_ | refine go_nx rfl ?_)
      refine go_jp rfl ?_
      refine go_rt rfl ?_
      refine hS h' N' ed' cap' (by rw [ev]; exact hv) c1 (fun _ => c2) (by rw [hsub]; exact c3) (by rw [hsub, enx, el]; exact c4) ?_ c6 (by rw [enx, el]; exact c7) c8
      rw [c5]
      have e1 : q_fi B N' p = if q_val B p + 4 < q_last B (q_val B p) then .ref (N' (q_val B p + 4)) else .null := by
        unfold q_fi
        exact if_cg ⟨fun q => q.2, fun q => ⟨k34, q⟩⟩
      rw [e1, show q_tf B p = 0 from if_neg k2, show q_tt B p = 0 from if_neg k2, show q_nu B p = 0 from if_neg (by omega)]
      rfl
    · repeat (first | refine gi_con ?_ | refine gi_bip (Nat.le_of_ble_eq_true rfl) ?_ | refine gi_sip (Nat.le_of_ble_eq_true rfl) ?_ | refine gi_ldc ?_ | refine gi_add ?_ | refine gi_inc rfl ?_ | refine gi_sub (by omega) ?_ | refine gi_mul ?_ | refine go_nx rfl ?_)
      refine go_jp rfl ?_
      refine go_rt rfl ?_
      exact hF h' A' cap' 0 0 0 fi (by rw [ev]; exact hv) c1 c2 c3 c4 c5 c6 c7
  rw [if_neg k34]
  have ev : q_vok (q_box qtt B k) B p lim = false := by unfold q_vok; rw [if_neg k16, if_neg k18, if_neg k8, if_neg k2, if_neg k10, if_neg (fun q => k34 (Or.inl q)), if_neg (fun q => k34 (Or.inr q))]
  repeat (first | refine gi_con ?_ | refine gi_bip (Nat.le_of_ble_eq_true rfl) ?_ | refine gi_sip (Nat.le_of_ble_eq_true rfl) ?_ | refine gi_ldc ?_ | refine gi_add ?_ | refine gi_inc rfl ?_ | refine gi_sub (by omega) ?_ | refine gi_mul ?_ | refine go_nx rfl ?_)
  refine gc_put (fs' := [.ref la, .ref row, .int (nI (q_val B p)), .int (q_t true)]) h1' rfl (Nat.le_of_ble_eq_true rfl) rfl rfl ?_
  refine go_jp rfl ?_
  refine go_rt rfl ?_
  have := badP (q_val B p) 0 0 0 ev (Nat.le_refl _) hA
  have e : mm_set (mm_set h a (nCell row B p 0 0 0 .null .null 0)) r (rdC la row (q_val B p) true) = mm_set h r (rdC la row (q_val B p) true) := by
    unfold mm_set
    refine Prod.ext rfl (Prod.ext rfl ?_)
    funext z
    show va_up (va_up h.2.2 a _) r _ z = va_up h.2.2 r _ z
    unfold va_up
    by_cases e1 : z = r
    · rw [if_pos e1, if_pos e1]
    · rw [if_neg e1, if_neg e1]
      by_cases e2 : z = a
      · rw [if_pos e2, e2, ha]
      · rw [if_neg e2]
  rw [e] at this
  exact this
end C
