/-! WORDS: the names that begin with $ -/
def q_wl : List (List Nat) := [[36, 97, 110, 100], [36, 111, 114], [36, 110, 111, 114], [36, 101, 113], [36, 110, 101], [36, 105, 110], [36, 110, 105, 110], [36, 108, 116], [36, 108, 116, 101], [36, 103, 116], [36, 103, 116, 101], [36, 101, 120, 105, 115, 116, 115], [36, 115, 105, 122, 101], [36, 101, 108, 101, 109], [36, 110, 111, 116]]
def q_isn (B : Nat → Nat) (p : Nat) (T : List Nat) : Bool := q_isw B (p + 1) (q_ne B p) T.length (fun i => T.getD i 0)
/-- 0 a name without $, 1 one that says nothing, 2 + j the word j -/
def q_word (B : Nat → Nat) (p : Nat) : Nat := if q_ne B p ≤ p + 1 ∨ B (p + 1) ≠ 36 then 0 else match q_wl.findIdx? (q_isn B p) with
  | some j => j + 2
  | none => 1
theorem q_isn_inj {B : Nat → Nat} {p : Nat} {T U : List Nat} (h1 : q_isn B p T = true) (h2 : q_isn B p U = true) : T = U := by
  obtain ⟨a1, a2⟩ := q_isw_iff.mp h1
  obtain ⟨b1, b2⟩ := q_isw_iff.mp h2
  refine List.ext_getElem (by omega) (fun i h3 h4 => ?_)
  have := (a2 i h3).symm.trans (b2 i h4)
  rw [List.getD_eq_getElem?_getD, List.getD_eq_getElem?_getD, List.getElem?_eq_getElem h3, List.getElem?_eq_getElem h4] at this
  exact this
theorem q_wl_ok : ∀ j, j < 15 → (∀ c ∈ q_wl.getD j [], 0 < c ∧ c < 256) ∧ (q_wl.getD j []).length ≤ 7 ∧ 2 < (q_wl.getD j []).length ∧ (q_wl.getD j []).getD 0 0 = 36 := by decide +kernel
theorem q_wl_inj : ∀ i, i < 15 → ∀ j, j < 15 → q_wl.getD i [] = q_wl.getD j [] → i = j := by decide +kernel
theorem q_isn_word {B : Nat → Nat} {p : Nat} (j : Nat) (hj : j < 15) : q_isn B p (q_wl.getD j []) = decide (q_word B p = j + 2) := by
  have hlen : q_wl.length = 15 := rfl
  have hgj : q_wl[j]? = some (q_wl.getD j []) := by rw [List.getD_eq_getElem?_getD, List.getElem?_eq_getElem (by omega)]; rfl
  by_cases h : q_isn B p (q_wl.getD j []) = true
  · rw [h]
    symm
    rw [decide_eq_true_eq]
    obtain ⟨a1, a2⟩ := q_isw_iff.mp h
    obtain ⟨-, -, b3, b4⟩ := q_wl_ok j hj
    have a3 := a2 0 (by omega)
    rw [b4] at a3
    unfold q_word
    rw [if_neg (by
      intro q
      rcases q with q | q
      · omega
      · exact q a3)]
    cases hf : q_wl.findIdx? (q_isn B p) with
    | none =>
      have := List.findIdx?_eq_none_iff.mp hf _ (List.mem_of_getElem? hgj)
      rw [h] at this
      cases this
    | some i =>
      obtain ⟨hi, h1, -⟩ := List.findIdx?_eq_some_iff_getElem.mp hf
      have h2 : q_wl.getD i [] = q_wl[i] := by rw [List.getD_eq_getElem?_getD, List.getElem?_eq_getElem hi]; rfl
      have h3 := q_isn_inj h (h2 ▸ h1)
      have := q_wl_inj j hj i (by omega) h3
      dsimp only
      omega
  · rw [Bool.not_eq_true] at h
    rw [h]
    symm
    rw [decide_eq_false_iff_not]
    intro q
    unfold q_word at q
    split at q
    · omega
    · split at q
      · rename_i i hf
        obtain ⟨hi, h1, -⟩ := List.findIdx?_eq_some_iff_getElem.mp hf
        have : i = j := by omega
        subst this
        have h2 : q_wl.getD i [] = q_wl[i] := by rw [List.getD_eq_getElem?_getD, List.getElem?_eq_getElem hi]; rfl
        rw [h2] at h
        exact absurd (h1.symm.trans h) (by decide)
      · omega
/-- the reference's numbers of the words of conditions -/
def q_nof (w : Nat) : Nat := if w = 5 then 1 else if w = 7 then 2 else if w = 9 then 3 else if w = 10 then 4 else if w = 11 then 5 else if w = 12 then 6 else if w = 15 then 7 else if w = 16 then 8 else if w = 13 then 9 else if w = 14 then 10 else if w = 6 then 11 else if w = 8 then 12 else 0
section M
variable {E : mmE} {d : Nat} {h : mmH} {Q : Option Value → mmH → Prop} {o st b n : Nat} {R B : Nat → Nat}
theorem sp_misn {p w : Nat} (j : Nat) (hj : j < 15) (hd : 1 ≤ d) (hm : mSt h o st R) (hw : mW R b n B) (hne : q_ne B p < n) (hp : p ≤ 2000) (he : q_enc (q_wl.getD j []) = w) (hq : Q (some (.int (q_t (decide (q_word B p = j + 2))))) h) : mm_Go E d 131 (mm_blk 131 0) [.ref o, .int (nI (b + p)), .long (lN w), mm_un, mm_un, mm_un, mm_un] [] h Q := by
  have w2 := hw.2.1
  obtain ⟨a1, a2, a3⟩ := q_ne_is hw.2.2 hp
  obtain ⟨b1, b2, -⟩ := q_wl_ok j hj
  refine sp_mnamed (e := q_ne B p) (q_wl.getD j []) hd hm (fun i hi => hw.1 i (by omega)) a1 (by omega) a2 a3 b1 b2 he ?_
  rw [← q_isn_word j hj] at hq
  exact hq
def q_join (B : Nat → Nat) (p : Nat) : Bool := decide (q_word B p = 2) || (decide (q_word B p = 3) || decide (q_word B p = 4))
theorem sp_misjoin {p : Nat} (hd : 2 ≤ d) (hm : mSt h o st R) (hw : mW R b n B) (hne : q_ne B p < n) (hp : p ≤ 2000) (hq : Q (some (.int (q_t (q_join B p)))) h) : mm_Go E d 130 (mm_blk 130 0) [.ref o, .int (nI (b + p))] [] h Q := by
  unfold q_join at hq
  repeat (first | refine gi_con ?_ | refine gi_bip (Nat.le_of_ble_eq_true rfl) ?_ | refine gi_sip (Nat.le_of_ble_eq_true rfl) ?_ | refine gi_ldc ?_ | refine gi_add ?_ | refine gi_inc rfl ?_ | refine gi_sub (by omega) ?_ | refine gi_mul ?_ | refine go_nx rfl ?_)
  refine go_step ?_
  refine g_callV (by decide) (by decide) (Nat.le_of_ble_eq_true rfl) (Nat.le_of_ble_eq_true rfl) (mSt_rcv hm) (by omega) (Nat.le_of_ble_eq_true rfl) rfl ?_
  refine sp_misn 0 (by omega) (by omega) hm hw hne hp rfl ?_
  repeat (first | refine gi_con ?_ | refine gi_bip (Nat.le_of_ble_eq_true rfl) ?_ | refine gi_sip (Nat.le_of_ble_eq_true rfl) ?_ | refine gi_ldc ?_ | refine gi_add ?_ | refine gi_inc rfl ?_ | refine gi_sub (by omega) ?_ | refine gi_mul ?_ | refine go_nx rfl ?_)
  first | refine gt_eq (fun c1 => ?_) (fun c1 => ?_) | refine gt_ne (fun c1 => ?_) (fun c1 => ?_)
  · rw [c1] at hq
    repeat (first | refine gi_con ?_ | refine gi_bip (Nat.le_of_ble_eq_true rfl) ?_ | refine gi_sip (Nat.le_of_ble_eq_true rfl) ?_ | refine gi_ldc ?_ | refine gi_add ?_ | refine gi_inc rfl ?_ | refine gi_sub (by omega) ?_ | refine gi_mul ?_ | refine go_nx rfl ?_)
    refine go_jp rfl ?_
    refine go_rt rfl ?_
    exact hq
  rw [c1, Bool.false_or] at hq
  repeat (first | refine gi_con ?_ | refine gi_bip (Nat.le_of_ble_eq_true rfl) ?_ | refine gi_sip (Nat.le_of_ble_eq_true rfl) ?_ | refine gi_ldc ?_ | refine gi_add ?_ | refine gi_inc rfl ?_ | refine gi_sub (by omega) ?_ | refine gi_mul ?_ | refine go_nx rfl ?_)
  refine go_step ?_
  refine g_callV (by decide) (by decide) (Nat.le_of_ble_eq_true rfl) (Nat.le_of_ble_eq_true rfl) (mSt_rcv hm) (by omega) (Nat.le_of_ble_eq_true rfl) rfl ?_
  refine sp_misn 1 (by omega) (by omega) hm hw hne hp rfl ?_
  repeat (first | refine gi_con ?_ | refine gi_bip (Nat.le_of_ble_eq_true rfl) ?_ | refine gi_sip (Nat.le_of_ble_eq_true rfl) ?_ | refine gi_ldc ?_ | refine gi_add ?_ | refine gi_inc rfl ?_ | refine gi_sub (by omega) ?_ | refine gi_mul ?_ | refine go_nx rfl ?_)
  first | refine gt_eq (fun c2 => ?_) (fun c2 => ?_) | refine gt_ne (fun c2 => ?_) (fun c2 => ?_)
  · rw [c2] at hq
    repeat (first | refine gi_con ?_ | refine gi_bip (Nat.le_of_ble_eq_true rfl) ?_ | refine gi_sip (Nat.le_of_ble_eq_true rfl) ?_ | refine gi_ldc ?_ | refine gi_add ?_ | refine gi_inc rfl ?_ | refine gi_sub (by omega) ?_ | refine gi_mul ?_ | refine go_nx rfl ?_)
    refine go_jp rfl ?_
    refine go_rt rfl ?_
    exact hq
  rw [c2, Bool.false_or] at hq
  repeat (first | refine gi_con ?_ | refine gi_bip (Nat.le_of_ble_eq_true rfl) ?_ | refine gi_sip (Nat.le_of_ble_eq_true rfl) ?_ | refine gi_ldc ?_ | refine gi_add ?_ | refine gi_inc rfl ?_ | refine gi_sub (by omega) ?_ | refine gi_mul ?_ | refine go_nx rfl ?_)
  refine go_step ?_
  refine g_callV (by decide) (by decide) (Nat.le_of_ble_eq_true rfl) (Nat.le_of_ble_eq_true rfl) (mSt_rcv hm) (by omega) (Nat.le_of_ble_eq_true rfl) rfl ?_
  refine sp_misn 2 (by omega) (by omega) hm hw hne hp rfl ?_
  repeat (first | refine gi_con ?_ | refine gi_bip (Nat.le_of_ble_eq_true rfl) ?_ | refine gi_sip (Nat.le_of_ble_eq_true rfl) ?_ | refine gi_ldc ?_ | refine gi_add ?_ | refine gi_inc rfl ?_ | refine gi_sub (by omega) ?_ | refine gi_mul ?_ | refine go_nx rfl ?_)
  first | refine gt_eq (fun c3 => ?_) (fun c3 => ?_) | refine gt_ne (fun c3 => ?_) (fun c3 => ?_)
  · rw [c3] at hq
    repeat (first | refine gi_con ?_ | refine gi_bip (Nat.le_of_ble_eq_true rfl) ?_ | refine gi_sip (Nat.le_of_ble_eq_true rfl) ?_ | refine gi_ldc ?_ | refine gi_add ?_ | refine gi_inc rfl ?_ | refine gi_sub (by omega) ?_ | refine gi_mul ?_ | refine go_nx rfl ?_)
    refine go_jp rfl ?_
    refine go_rt rfl ?_
    exact hq
  rw [c3] at hq
  refine go_jp rfl ?_
  repeat (first | refine gi_con ?_ | refine gi_bip (Nat.le_of_ble_eq_true rfl) ?_ | refine gi_sip (Nat.le_of_ble_eq_true rfl) ?_ | refine gi_ldc ?_ | refine gi_add ?_ | refine gi_inc rfl ?_ | refine gi_sub (by omega) ?_ | refine gi_mul ?_ | refine go_nx rfl ?_)
  refine go_jp rfl ?_
  refine go_rt rfl ?_
  exact hq
theorem sp_mnumberOf {p : Nat} (hd : 2 ≤ d) (hm : mSt h o st R) (hw : mW R b n B) (hne : q_ne B p < n) (hp : p ≤ 2000) (hq : Q (some (.int (nI (q_nof (q_word B p))))) h) : mm_Go E d 137 (mm_blk 137 0) [.ref o, .int (nI (b + p))] [] h Q := by
  unfold q_nof at hq
  repeat (first | refine gi_con ?_ | refine gi_bip (Nat.le_of_ble_eq_true rfl) ?_ | refine gi_sip (Nat.le_of_ble_eq_true rfl) ?_ | refine gi_ldc ?_ | refine gi_add ?_ | refine gi_inc rfl ?_ | refine gi_sub (by omega) ?_ | refine gi_mul ?_ | refine go_nx rfl ?_)
  refine go_step ?_
  refine g_callV (by decide) (by decide) (Nat.le_of_ble_eq_true rfl) (Nat.le_of_ble_eq_true rfl) (mSt_rcv hm) (by omega) (Nat.le_of_ble_eq_true rfl) rfl ?_
  refine sp_misn 3 (by omega) (by omega) hm hw hne hp rfl ?_
  repeat (first | refine gi_con ?_ | refine gi_bip (Nat.le_of_ble_eq_true rfl) ?_ | refine gi_sip (Nat.le_of_ble_eq_true rfl) ?_ | refine gi_ldc ?_ | refine gi_add ?_ | refine gi_inc rfl ?_ | refine gi_sub (by omega) ?_ | refine gi_mul ?_ | refine go_nx rfl ?_)
  refine gt_eq (fun c0 => ?_) (fun c0 => ?_)
  rotate_left
  · rw [if_pos (of_decide_eq_true c0)] at hq
    repeat (first | refine gi_con ?_ | refine gi_bip (Nat.le_of_ble_eq_true rfl) ?_ | refine gi_sip (Nat.le_of_ble_eq_true rfl) ?_ | refine gi_ldc ?_ | refine gi_add ?_ | refine gi_inc rfl ?_ | refine gi_sub (by omega) ?_ | refine gi_mul ?_ | refine go_nx rfl ?_)
    refine go_rt rfl ?_
    exact hq
  rw [if_neg (of_decide_eq_false c0)] at hq
  repeat (first | refine gi_con ?_ | refine gi_bip (Nat.le_of_ble_eq_true rfl) ?_ | refine gi_sip (Nat.le_of_ble_eq_true rfl) ?_ | refine gi_ldc ?_ | refine gi_add ?_ | refine gi_inc rfl ?_ | refine gi_sub (by omega) ?_ | refine gi_mul ?_ | refine go_nx rfl ?_)
  refine go_step ?_
  refine g_callV (by decide) (by decide) (Nat.le_of_ble_eq_true rfl) (Nat.le_of_ble_eq_true rfl) (mSt_rcv hm) (by omega) (Nat.le_of_ble_eq_true rfl) rfl ?_
  refine sp_misn 5 (by omega) (by omega) hm hw hne hp rfl ?_
  repeat (first | refine gi_con ?_ | refine gi_bip (Nat.le_of_ble_eq_true rfl) ?_ | refine gi_sip (Nat.le_of_ble_eq_true rfl) ?_ | refine gi_ldc ?_ | refine gi_add ?_ | refine gi_inc rfl ?_ | refine gi_sub (by omega) ?_ | refine gi_mul ?_ | refine go_nx rfl ?_)
  refine gt_eq (fun c1 => ?_) (fun c1 => ?_)
  rotate_left
  · rw [if_pos (of_decide_eq_true c1)] at hq
    repeat (first | refine gi_con ?_ | refine gi_bip (Nat.le_of_ble_eq_true rfl) ?_ | refine gi_sip (Nat.le_of_ble_eq_true rfl) ?_ | refine gi_ldc ?_ | refine gi_add ?_ | refine gi_inc rfl ?_ | refine gi_sub (by omega) ?_ | refine gi_mul ?_ | refine go_nx rfl ?_)
    refine go_rt rfl ?_
    exact hq
  rw [if_neg (of_decide_eq_false c1)] at hq
  repeat (first | refine gi_con ?_ | refine gi_bip (Nat.le_of_ble_eq_true rfl) ?_ | refine gi_sip (Nat.le_of_ble_eq_true rfl) ?_ | refine gi_ldc ?_ | refine gi_add ?_ | refine gi_inc rfl ?_ | refine gi_sub (by omega) ?_ | refine gi_mul ?_ | refine go_nx rfl ?_)
  refine go_step ?_
  refine g_callV (by decide) (by decide) (Nat.le_of_ble_eq_true rfl) (Nat.le_of_ble_eq_true rfl) (mSt_rcv hm) (by omega) (Nat.le_of_ble_eq_true rfl) rfl ?_
  refine sp_misn 7 (by omega) (by omega) hm hw hne hp rfl ?_
  repeat (first | refine gi_con ?_ | refine gi_bip (Nat.le_of_ble_eq_true rfl) ?_ | refine gi_sip (Nat.le_of_ble_eq_true rfl) ?_ | refine gi_ldc ?_ | refine gi_add ?_ | refine gi_inc rfl ?_ | refine gi_sub (by omega) ?_ | refine gi_mul ?_ | refine go_nx rfl ?_)
  refine gt_eq (fun c2 => ?_) (fun c2 => ?_)
  rotate_left
  · rw [if_pos (of_decide_eq_true c2)] at hq
    repeat (first | refine gi_con ?_ | refine gi_bip (Nat.le_of_ble_eq_true rfl) ?_ | refine gi_sip (Nat.le_of_ble_eq_true rfl) ?_ | refine gi_ldc ?_ | refine gi_add ?_ | refine gi_inc rfl ?_ | refine gi_sub (by omega) ?_ | refine gi_mul ?_ | refine go_nx rfl ?_)
    refine go_rt rfl ?_
    exact hq
  rw [if_neg (of_decide_eq_false c2)] at hq
  repeat (first | refine gi_con ?_ | refine gi_bip (Nat.le_of_ble_eq_true rfl) ?_ | refine gi_sip (Nat.le_of_ble_eq_true rfl) ?_ | refine gi_ldc ?_ | refine gi_add ?_ | refine gi_inc rfl ?_ | refine gi_sub (by omega) ?_ | refine gi_mul ?_ | refine go_nx rfl ?_)
  refine go_step ?_
  refine g_callV (by decide) (by decide) (Nat.le_of_ble_eq_true rfl) (Nat.le_of_ble_eq_true rfl) (mSt_rcv hm) (by omega) (Nat.le_of_ble_eq_true rfl) rfl ?_
  refine sp_misn 8 (by omega) (by omega) hm hw hne hp rfl ?_
  repeat (first | refine gi_con ?_ | refine gi_bip (Nat.le_of_ble_eq_true rfl) ?_ | refine gi_sip (Nat.le_of_ble_eq_true rfl) ?_ | refine gi_ldc ?_ | refine gi_add ?_ | refine gi_inc rfl ?_ | refine gi_sub (by omega) ?_ | refine gi_mul ?_ | refine go_nx rfl ?_)
  refine gt_eq (fun c3 => ?_) (fun c3 => ?_)
  rotate_left
  · rw [if_pos (of_decide_eq_true c3)] at hq
    repeat (first | refine gi_con ?_ | refine gi_bip (Nat.le_of_ble_eq_true rfl) ?_ | refine gi_sip (Nat.le_of_ble_eq_true rfl) ?_ | refine gi_ldc ?_ | refine gi_add ?_ | refine gi_inc rfl ?_ | refine gi_sub (by omega) ?_ | refine gi_mul ?_ | refine go_nx rfl ?_)
    refine go_rt rfl ?_
    exact hq
  rw [if_neg (of_decide_eq_false c3)] at hq
  repeat (first | refine gi_con ?_ | refine gi_bip (Nat.le_of_ble_eq_true rfl) ?_ | refine gi_sip (Nat.le_of_ble_eq_true rfl) ?_ | refine gi_ldc ?_ | refine gi_add ?_ | refine gi_inc rfl ?_ | refine gi_sub (by omega) ?_ | refine gi_mul ?_ | refine go_nx rfl ?_)
  refine go_step ?_
  refine g_callV (by decide) (by decide) (Nat.le_of_ble_eq_true rfl) (Nat.le_of_ble_eq_true rfl) (mSt_rcv hm) (by omega) (Nat.le_of_ble_eq_true rfl) rfl ?_
  refine sp_misn 9 (by omega) (by omega) hm hw hne hp rfl ?_
  repeat (first | refine gi_con ?_ | refine gi_bip (Nat.le_of_ble_eq_true rfl) ?_ | refine gi_sip (Nat.le_of_ble_eq_true rfl) ?_ | refine gi_ldc ?_ | refine gi_add ?_ | refine gi_inc rfl ?_ | refine gi_sub (by omega) ?_ | refine gi_mul ?_ | refine go_nx rfl ?_)
  refine gt_eq (fun c4 => ?_) (fun c4 => ?_)
  rotate_left
  · rw [if_pos (of_decide_eq_true c4)] at hq
    repeat (first | refine gi_con ?_ | refine gi_bip (Nat.le_of_ble_eq_true rfl) ?_ | refine gi_sip (Nat.le_of_ble_eq_true rfl) ?_ | refine gi_ldc ?_ | refine gi_add ?_ | refine gi_inc rfl ?_ | refine gi_sub (by omega) ?_ | refine gi_mul ?_ | refine go_nx rfl ?_)
    refine go_rt rfl ?_
    exact hq
  rw [if_neg (of_decide_eq_false c4)] at hq
  repeat (first | refine gi_con ?_ | refine gi_bip (Nat.le_of_ble_eq_true rfl) ?_ | refine gi_sip (Nat.le_of_ble_eq_true rfl) ?_ | refine gi_ldc ?_ | refine gi_add ?_ | refine gi_inc rfl ?_ | refine gi_sub (by omega) ?_ | refine gi_mul ?_ | refine go_nx rfl ?_)
  refine go_step ?_
  refine g_callV (by decide) (by decide) (Nat.le_of_ble_eq_true rfl) (Nat.le_of_ble_eq_true rfl) (mSt_rcv hm) (by omega) (Nat.le_of_ble_eq_true rfl) rfl ?_
  refine sp_misn 10 (by omega) (by omega) hm hw hne hp rfl ?_
  repeat (first | refine gi_con ?_ | refine gi_bip (Nat.le_of_ble_eq_true rfl) ?_ | refine gi_sip (Nat.le_of_ble_eq_true rfl) ?_ | refine gi_ldc ?_ | refine gi_add ?_ | refine gi_inc rfl ?_ | refine gi_sub (by omega) ?_ | refine gi_mul ?_ | refine go_nx rfl ?_)
  refine gt_eq (fun c5 => ?_) (fun c5 => ?_)
  rotate_left
  · rw [if_pos (of_decide_eq_true c5)] at hq
    repeat (first | refine gi_con ?_ | refine gi_bip (Nat.le_of_ble_eq_true rfl) ?_ | refine gi_sip (Nat.le_of_ble_eq_true rfl) ?_ | refine gi_ldc ?_ | refine gi_add ?_ | refine gi_inc rfl ?_ | refine gi_sub (by omega) ?_ | refine gi_mul ?_ | refine go_nx rfl ?_)
    refine go_rt rfl ?_
    exact hq
  rw [if_neg (of_decide_eq_false c5)] at hq
  repeat (first | refine gi_con ?_ | refine gi_bip (Nat.le_of_ble_eq_true rfl) ?_ | refine gi_sip (Nat.le_of_ble_eq_true rfl) ?_ | refine gi_ldc ?_ | refine gi_add ?_ | refine gi_inc rfl ?_ | refine gi_sub (by omega) ?_ | refine gi_mul ?_ | refine go_nx rfl ?_)
  refine go_step ?_
  refine g_callV (by decide) (by decide) (Nat.le_of_ble_eq_true rfl) (Nat.le_of_ble_eq_true rfl) (mSt_rcv hm) (by omega) (Nat.le_of_ble_eq_true rfl) rfl ?_
  refine sp_misn 13 (by omega) (by omega) hm hw hne hp rfl ?_
  repeat (first | refine gi_con ?_ | refine gi_bip (Nat.le_of_ble_eq_true rfl) ?_ | refine gi_sip (Nat.le_of_ble_eq_true rfl) ?_ | refine gi_ldc ?_ | refine gi_add ?_ | refine gi_inc rfl ?_ | refine gi_sub (by omega) ?_ | refine gi_mul ?_ | refine go_nx rfl ?_)
  refine gt_eq (fun c6 => ?_) (fun c6 => ?_)
  rotate_left
  · rw [if_pos (of_decide_eq_true c6)] at hq
    repeat (first | refine gi_con ?_ | refine gi_bip (Nat.le_of_ble_eq_true rfl) ?_ | refine gi_sip (Nat.le_of_ble_eq_true rfl) ?_ | refine gi_ldc ?_ | refine gi_add ?_ | refine gi_inc rfl ?_ | refine gi_sub (by omega) ?_ | refine gi_mul ?_ | refine go_nx rfl ?_)
    refine go_rt rfl ?_
    exact hq
  rw [if_neg (of_decide_eq_false c6)] at hq
  repeat (first | refine gi_con ?_ | refine gi_bip (Nat.le_of_ble_eq_true rfl) ?_ | refine gi_sip (Nat.le_of_ble_eq_true rfl) ?_ | refine gi_ldc ?_ | refine gi_add ?_ | refine gi_inc rfl ?_ | refine gi_sub (by omega) ?_ | refine gi_mul ?_ | refine go_nx rfl ?_)
  refine go_step ?_
  refine g_callV (by decide) (by decide) (Nat.le_of_ble_eq_true rfl) (Nat.le_of_ble_eq_true rfl) (mSt_rcv hm) (by omega) (Nat.le_of_ble_eq_true rfl) rfl ?_
  refine sp_misn 14 (by omega) (by omega) hm hw hne hp rfl ?_
  repeat (first | refine gi_con ?_ | refine gi_bip (Nat.le_of_ble_eq_true rfl) ?_ | refine gi_sip (Nat.le_of_ble_eq_true rfl) ?_ | refine gi_ldc ?_ | refine gi_add ?_ | refine gi_inc rfl ?_ | refine gi_sub (by omega) ?_ | refine gi_mul ?_ | refine go_nx rfl ?_)
  refine gt_eq (fun c7 => ?_) (fun c7 => ?_)
  rotate_left
  · rw [if_pos (of_decide_eq_true c7)] at hq
    repeat (first | refine gi_con ?_ | refine gi_bip (Nat.le_of_ble_eq_true rfl) ?_ | refine gi_sip (Nat.le_of_ble_eq_true rfl) ?_ | refine gi_ldc ?_ | refine gi_add ?_ | refine gi_inc rfl ?_ | refine gi_sub (by omega) ?_ | refine gi_mul ?_ | refine go_nx rfl ?_)
    refine go_rt rfl ?_
    exact hq
  rw [if_neg (of_decide_eq_false c7)] at hq
  repeat (first | refine gi_con ?_ | refine gi_bip (Nat.le_of_ble_eq_true rfl) ?_ | refine gi_sip (Nat.le_of_ble_eq_true rfl) ?_ | refine gi_ldc ?_ | refine gi_add ?_ | refine gi_inc rfl ?_ | refine gi_sub (by omega) ?_ | refine gi_mul ?_ | refine go_nx rfl ?_)
  refine go_step ?_
  refine g_callV (by decide) (by decide) (Nat.le_of_ble_eq_true rfl) (Nat.le_of_ble_eq_true rfl) (mSt_rcv hm) (by omega) (Nat.le_of_ble_eq_true rfl) rfl ?_
  refine sp_misn 11 (by omega) (by omega) hm hw hne hp rfl ?_
  repeat (first | refine gi_con ?_ | refine gi_bip (Nat.le_of_ble_eq_true rfl) ?_ | refine gi_sip (Nat.le_of_ble_eq_true rfl) ?_ | refine gi_ldc ?_ | refine gi_add ?_ | refine gi_inc rfl ?_ | refine gi_sub (by omega) ?_ | refine gi_mul ?_ | refine go_nx rfl ?_)
  refine gt_eq (fun c8 => ?_) (fun c8 => ?_)
  rotate_left
  · rw [if_pos (of_decide_eq_true c8)] at hq
    repeat (first | refine gi_con ?_ | refine gi_bip (Nat.le_of_ble_eq_true rfl) ?_ | refine gi_sip (Nat.le_of_ble_eq_true rfl) ?_ | refine gi_ldc ?_ | refine gi_add ?_ | refine gi_inc rfl ?_ | refine gi_sub (by omega) ?_ | refine gi_mul ?_ | refine go_nx rfl ?_)
    refine go_rt rfl ?_
    exact hq
  rw [if_neg (of_decide_eq_false c8)] at hq
  repeat (first | refine gi_con ?_ | refine gi_bip (Nat.le_of_ble_eq_true rfl) ?_ | refine gi_sip (Nat.le_of_ble_eq_true rfl) ?_ | refine gi_ldc ?_ | refine gi_add ?_ | refine gi_inc rfl ?_ | refine gi_sub (by omega) ?_ | refine gi_mul ?_ | refine go_nx rfl ?_)
  refine go_step ?_
  refine g_callV (by decide) (by decide) (Nat.le_of_ble_eq_true rfl) (Nat.le_of_ble_eq_true rfl) (mSt_rcv hm) (by omega) (Nat.le_of_ble_eq_true rfl) rfl ?_
  refine sp_misn 12 (by omega) (by omega) hm hw hne hp rfl ?_
  repeat (first | refine gi_con ?_ | refine gi_bip (Nat.le_of_ble_eq_true rfl) ?_ | refine gi_sip (Nat.le_of_ble_eq_true rfl) ?_ | refine gi_ldc ?_ | refine gi_add ?_ | refine gi_inc rfl ?_ | refine gi_sub (by omega) ?_ | refine gi_mul ?_ | refine go_nx rfl ?_)
  refine gt_eq (fun c9 => ?_) (fun c9 => ?_)
  rotate_left
  · rw [if_pos (of_decide_eq_true c9)] at hq
    repeat (first | refine gi_con ?_ | refine gi_bip (Nat.le_of_ble_eq_true rfl) ?_ | refine gi_sip (Nat.le_of_ble_eq_true rfl) ?_ | refine gi_ldc ?_ | refine gi_add ?_ | refine gi_inc rfl ?_ | refine gi_sub (by omega) ?_ | refine gi_mul ?_ | refine go_nx rfl ?_)
    refine go_rt rfl ?_
    exact hq
  rw [if_neg (of_decide_eq_false c9)] at hq
  repeat (first | refine gi_con ?_ | refine gi_bip (Nat.le_of_ble_eq_true rfl) ?_ | refine gi_sip (Nat.le_of_ble_eq_true rfl) ?_ | refine gi_ldc ?_ | refine gi_add ?_ | refine gi_inc rfl ?_ | refine gi_sub (by omega) ?_ | refine gi_mul ?_ | refine go_nx rfl ?_)
  refine go_step ?_
  refine g_callV (by decide) (by decide) (Nat.le_of_ble_eq_true rfl) (Nat.le_of_ble_eq_true rfl) (mSt_rcv hm) (by omega) (Nat.le_of_ble_eq_true rfl) rfl ?_
  refine sp_misn 4 (by omega) (by omega) hm hw hne hp rfl ?_
  repeat (first | refine gi_con ?_ | refine gi_bip (Nat.le_of_ble_eq_true rfl) ?_ | refine gi_sip (Nat.le_of_ble_eq_true rfl) ?_ | refine gi_ldc ?_ | refine gi_add ?_ | refine gi_inc rfl ?_ | refine gi_sub (by omega) ?_ | refine gi_mul ?_ | refine go_nx rfl ?_)
  refine gt_eq (fun c10 => ?_) (fun c10 => ?_)
  rotate_left
  · rw [if_pos (of_decide_eq_true c10)] at hq
    repeat (first | refine gi_con ?_ | refine gi_bip (Nat.le_of_ble_eq_true rfl) ?_ | refine gi_sip (Nat.le_of_ble_eq_true rfl) ?_ | refine gi_ldc ?_ | refine gi_add ?_ | refine gi_inc rfl ?_ | refine gi_sub (by omega) ?_ | refine gi_mul ?_ | refine go_nx rfl ?_)
    refine go_rt rfl ?_
    exact hq
  rw [if_neg (of_decide_eq_false c10)] at hq
  repeat (first | refine gi_con ?_ | refine gi_bip (Nat.le_of_ble_eq_true rfl) ?_ | refine gi_sip (Nat.le_of_ble_eq_true rfl) ?_ | refine gi_ldc ?_ | refine gi_add ?_ | refine gi_inc rfl ?_ | refine gi_sub (by omega) ?_ | refine gi_mul ?_ | refine go_nx rfl ?_)
  refine go_step ?_
  refine g_callV (by decide) (by decide) (Nat.le_of_ble_eq_true rfl) (Nat.le_of_ble_eq_true rfl) (mSt_rcv hm) (by omega) (Nat.le_of_ble_eq_true rfl) rfl ?_
  refine sp_misn 6 (by omega) (by omega) hm hw hne hp rfl ?_
  repeat (first | refine gi_con ?_ | refine gi_bip (Nat.le_of_ble_eq_true rfl) ?_ | refine gi_sip (Nat.le_of_ble_eq_true rfl) ?_ | refine gi_ldc ?_ | refine gi_add ?_ | refine gi_inc rfl ?_ | refine gi_sub (by omega) ?_ | refine gi_mul ?_ | refine go_nx rfl ?_)
  refine gt_eq (fun c11 => ?_) (fun c11 => ?_)
  · rw [if_neg (of_decide_eq_false c11)] at hq
    repeat (first | refine gi_con ?_ | refine gi_bip (Nat.le_of_ble_eq_true rfl) ?_ | refine gi_sip (Nat.le_of_ble_eq_true rfl) ?_ | refine gi_ldc ?_ | refine gi_add ?_ | refine gi_inc rfl ?_ | refine gi_sub (by omega) ?_ | refine gi_mul ?_ | refine go_nx rfl ?_)
    refine go_jp rfl ?_
    refine go_rt rfl ?_
    exact hq
  · rw [if_pos (of_decide_eq_true c11)] at hq
    repeat (first | refine gi_con ?_ | refine gi_bip (Nat.le_of_ble_eq_true rfl) ?_ | refine gi_sip (Nat.le_of_ble_eq_true rfl) ?_ | refine gi_ldc ?_ | refine gi_add ?_ | refine gi_inc rfl ?_ | refine gi_sub (by omega) ?_ | refine gi_mul ?_ | refine go_nx rfl ?_)
    refine go_jp rfl ?_
    refine go_rt rfl ?_
    exact hq
def q_cond (B : Nat → Nat) (p : Nat) : Bool := decide (B p = 3) && (decide (5 < q_sz B (q_val B p)) && decide (B (q_val B p + 5) = 36))
theorem sp_miscond {p : Nat} (hd : 2 ≤ d) (hm : mSt h o st R) (hw : mW R b n B) (hok : q_ok B n p) (hq : Q (some (.int (q_t (q_cond B p)))) h) : mm_Go E d 135 (mm_blk 135 0) [.ref o, .int (nI (b + p)), mm_un] [] h Q := by
  have w2 := hw.2.1
  obtain ⟨i1, i2, i3⟩ := q_ok_in hw.2.2 hok
  have hB := hw.2.2.2.1 p
  have hB5 := hw.2.2.2.1 (q_val B p + 5)
  have h3 := hok.2.2.1
  unfold q_cond at hq
  repeat (first | refine gi_con ?_ | refine gi_bip (Nat.le_of_ble_eq_true rfl) ?_ | refine gi_sip (Nat.le_of_ble_eq_true rfl) ?_ | refine gi_ldc ?_ | refine gi_add ?_ | refine gi_inc rfl ?_ | refine gi_sub (by omega) ?_ | refine gi_mul ?_ | refine go_nx rfl ?_)
  refine go_step ?_
  refine g_callV (by decide) (by decide) (Nat.le_of_ble_eq_true rfl) (Nat.le_of_ble_eq_true rfl) (mSt_rcv hm) (by omega) (Nat.le_of_ble_eq_true rfl) rfl ?_
  refine sp_mval (by omega) hm hw hok.2.1 ?_
  repeat (first | refine gi_con ?_ | refine gi_bip (Nat.le_of_ble_eq_true rfl) ?_ | refine gi_sip (Nat.le_of_ble_eq_true rfl) ?_ | refine gi_ldc ?_ | refine gi_add ?_ | refine gi_inc rfl ?_ | refine gi_sub (by omega) ?_ | refine gi_mul ?_ | refine go_nx rfl ?_)
  refine go_step ?_
  refine g_callV (by decide) (by decide) (Nat.le_of_ble_eq_true rfl) (Nat.le_of_ble_eq_true rfl) (mSt_rcv hm) (by omega) (Nat.le_of_ble_eq_true rfl) rfl ?_
  refine sp_mat2 hm hw hok.1 ?_
  repeat (first | refine gi_con ?_ | refine gi_bip (Nat.le_of_ble_eq_true rfl) ?_ | refine gi_sip (Nat.le_of_ble_eq_true rfl) ?_ | refine gi_ldc ?_ | refine gi_add ?_ | refine gi_inc rfl ?_ | refine gi_sub (by omega) ?_ | refine gi_mul ?_ | refine go_nx rfl ?_)
  first | refine gb_lt (by omega) (by omega) (fun c1 => ?_) (fun c1 => ?_) | refine gb_ge (by omega) (by omega) (fun c1 => ?_) (fun c1 => ?_) | refine gb_gt (by omega) (by omega) (fun c1 => ?_) (fun c1 => ?_) | refine gb_le (by omega) (by omega) (fun c1 => ?_) (fun c1 => ?_) | refine gb_eq (by omega) (by omega) (fun c1 => ?_) (fun c1 => ?_) | refine gb_ne (by omega) (by omega) (fun c1 => ?_) (fun c1 => ?_)
  · rw [decide_eq_false c1] at hq
    repeat (first | refine gi_con ?_ | refine gi_bip (Nat.le_of_ble_eq_true rfl) ?_ | refine gi_sip (Nat.le_of_ble_eq_true rfl) ?_ | refine gi_ldc ?_ | refine gi_add ?_ | refine gi_inc rfl ?_ | refine gi_sub (by omega) ?_ | refine gi_mul ?_ | refine go_nx rfl ?_)
    refine go_jp rfl ?_
    refine go_rt rfl ?_
    exact hq
  rw [decide_eq_true c1, Bool.true_and] at hq
  have hnx : q_next B p = q_val B p + q_sz B (q_val B p) := by
    unfold q_next q_ln
    rw [if_neg (by omega), if_neg (by omega), if_neg (by omega), if_neg (by omega), if_pos (Or.inl c1)]
  have hn := hw.2.2.1
  repeat (first | refine gi_con ?_ | refine gi_bip (Nat.le_of_ble_eq_true rfl) ?_ | refine gi_sip (Nat.le_of_ble_eq_true rfl) ?_ | refine gi_ldc ?_ | refine gi_add ?_ | refine gi_inc rfl ?_ | refine gi_sub (by omega) ?_ | refine gi_mul ?_ | refine go_nx rfl ?_)
  refine go_step ?_
  refine g_callV (by decide) (by decide) (Nat.le_of_ble_eq_true rfl) (Nat.le_of_ble_eq_true rfl) (mSt_rcv hm) (by omega) (Nat.le_of_ble_eq_true rfl) rfl ?_
  refine sp_mwh (by omega) hm hw (i3 (Or.inr (Or.inl c1))) ?_
  repeat (first | refine gi_con ?_ | refine gi_bip (Nat.le_of_ble_eq_true rfl) ?_ | refine gi_sip (Nat.le_of_ble_eq_true rfl) ?_ | refine gi_ldc ?_ | refine gi_add ?_ | refine gi_inc rfl ?_ | refine gi_sub (by omega) ?_ | refine gi_mul ?_ | refine go_nx rfl ?_)
  first | refine gb_lt (by omega) (by omega) (fun c2 => ?_) (fun c2 => ?_) | refine gb_ge (by omega) (by omega) (fun c2 => ?_) (fun c2 => ?_) | refine gb_gt (by omega) (by omega) (fun c2 => ?_) (fun c2 => ?_) | refine gb_le (by omega) (by omega) (fun c2 => ?_) (fun c2 => ?_) | refine gb_eq (by omega) (by omega) (fun c2 => ?_) (fun c2 => ?_) | refine gb_ne (by omega) (by omega) (fun c2 => ?_) (fun c2 => ?_)
  · rw [decide_eq_false (by omega)] at hq
    repeat (first | refine gi_con ?_ | refine gi_bip (Nat.le_of_ble_eq_true rfl) ?_ | refine gi_sip (Nat.le_of_ble_eq_true rfl) ?_ | refine gi_ldc ?_ | refine gi_add ?_ | refine gi_inc rfl ?_ | refine gi_sub (by omega) ?_ | refine gi_mul ?_ | refine go_nx rfl ?_)
    refine go_jp rfl ?_
    refine go_rt rfl ?_
    exact hq
  rw [decide_eq_true (by omega), Bool.true_and] at hq
  repeat (first | refine gi_con ?_ | refine gi_bip (Nat.le_of_ble_eq_true rfl) ?_ | refine gi_sip (Nat.le_of_ble_eq_true rfl) ?_ | refine gi_ldc ?_ | refine gi_add ?_ | refine gi_inc rfl ?_ | refine gi_sub (by omega) ?_ | refine gi_mul ?_ | refine go_nx rfl ?_)
  refine go_step ?_
  refine g_callV (by decide) (by decide) (Nat.le_of_ble_eq_true rfl) (Nat.le_of_ble_eq_true rfl) (mSt_rcv hm) (by omega) (Nat.le_of_ble_eq_true rfl) rfl ?_
  rw [Nat.add_assoc]
  refine sp_mat2 hm hw (by omega) ?_
  repeat (first | refine gi_con ?_ | refine gi_bip (Nat.le_of_ble_eq_true rfl) ?_ | refine gi_sip (Nat.le_of_ble_eq_true rfl) ?_ | refine gi_ldc ?_ | refine gi_add ?_ | refine gi_inc rfl ?_ | refine gi_sub (by omega) ?_ | refine gi_mul ?_ | refine go_nx rfl ?_)
  first | refine gb_lt (by omega) (by omega) (fun c3 => ?_) (fun c3 => ?_) | refine gb_ge (by omega) (by omega) (fun c3 => ?_) (fun c3 => ?_) | refine gb_gt (by omega) (by omega) (fun c3 => ?_) (fun c3 => ?_) | refine gb_le (by omega) (by omega) (fun c3 => ?_) (fun c3 => ?_) | refine gb_eq (by omega) (by omega) (fun c3 => ?_) (fun c3 => ?_) | refine gb_ne (by omega) (by omega) (fun c3 => ?_) (fun c3 => ?_)
  · rw [decide_eq_false c3] at hq
    repeat (first | refine gi_con ?_ | refine gi_bip (Nat.le_of_ble_eq_true rfl) ?_ | refine gi_sip (Nat.le_of_ble_eq_true rfl) ?_ | refine gi_ldc ?_ | refine gi_add ?_ | refine gi_inc rfl ?_ | refine gi_sub (by omega) ?_ | refine gi_mul ?_ | refine go_nx rfl ?_)
    refine go_jp rfl ?_
    refine go_rt rfl ?_
    exact hq
  rw [decide_eq_true c3] at hq
  repeat (first | refine gi_con ?_ | refine gi_bip (Nat.le_of_ble_eq_true rfl) ?_ | refine gi_sip (Nat.le_of_ble_eq_true rfl) ?_ | refine gi_ldc ?_ | refine gi_add ?_ | refine gi_inc rfl ?_ | refine gi_sub (by omega) ?_ | refine gi_mul ?_ | refine go_nx rfl ?_)
  refine go_jp rfl ?_
  refine go_rt rfl ?_
  exact hq
/-- the value of a number, of a truth -/
def q_num (B : Nat → Nat) (kd v : Nat) : Int64 := if kd = 16 then (nI (q_sz B v)).toInt64 else if kd = 8 then lN (B v) else lN (q_sz B v + 4294967296 * q_sz B (v + 4))
theorem q_l32 {a : Nat} (ha : a < 2 ^ 32) : ∃ x, (nI a).toInt64 = lN x ∧ x < 2 ^ 64 ∧ x % 2 ^ 32 = a := by
  obtain ⟨x, h1, h2⟩ := wb_of (nI a).toInt64
  refine ⟨x, h2, h1, ?_⟩
  have h3 := congrArg Int64.toInt32 h2
  rw [lN_i, Int32.toInt32_toInt64] at h3
  have h4 := congrArg (fun z : Int32 => z.toBitVec.toNat) h3
  have h5 : (nI a).toBitVec.toNat = (nI x).toBitVec.toNat := h4
  rw [pk_tn ha] at h5
  rw [h5]
  rfl
theorem q_l64 {a b : Nat} (ha : a < 2 ^ 32) (hb : b < 2 ^ 32) : (nI a).toInt64 * Int64.ofNat 4294967296 + ((nI b).toInt64 &&& Int64.ofNat 4294967295) = lN (b + 4294967296 * a) := by
  obtain ⟨x, h1, h2, h3⟩ := q_l32 ha
  obtain ⟨y, h4, h5, h6⟩ := q_l32 hb
  have e1 : lN (2 ^ 32 - 1) = Int64.ofNat 4294967295 := by decide
  have e2 : Int64.ofNat 4294967296 = lN 4294967296 := rfl
  rw [h1, h4, ← e1, wb_mask h5 (by decide), h6, e2, lN_mul, lN_add, wb_mod, wb_mod (b + 4294967296 * a)]
  congr 1
  omega
theorem sp_mlongAt {kd v : Nat} (hd : 2 ≤ d) (hm : mSt h o st R) (hw : mW R b n B) (hkd : kd = 16 ∧ v + 4 ≤ n ∨ kd = 8 ∧ v + 1 ≤ n ∨ kd = 18 ∧ v + 8 ≤ n) (hq : Q (some (.long (q_num B kd v))) h) : mm_Go E d 138 (mm_blk 138 0) [.ref o, .int (nI kd), .int (nI (b + v))] [] h Q := by
  have w2 := hw.2.1
  unfold q_num at hq
  repeat (first | refine gi_con ?_ | refine gi_bip (Nat.le_of_ble_eq_true rfl) ?_ | refine gi_sip (Nat.le_of_ble_eq_true rfl) ?_ | refine gi_ldc ?_ | refine gi_add ?_ | refine gi_inc rfl ?_ | refine gi_sub (by omega) ?_ | refine gi_mul ?_ | refine go_nx rfl ?_)
  first | refine gb_lt (by omega) (by omega) (fun c1 => ?_) (fun c1 => ?_) | refine gb_ge (by omega) (by omega) (fun c1 => ?_) (fun c1 => ?_) | refine gb_gt (by omega) (by omega) (fun c1 => ?_) (fun c1 => ?_) | refine gb_le (by omega) (by omega) (fun c1 => ?_) (fun c1 => ?_) | refine gb_eq (by omega) (by omega) (fun c1 => ?_) (fun c1 => ?_) | refine gb_ne (by omega) (by omega) (fun c1 => ?_) (fun c1 => ?_)
  · rw [if_neg c1] at hq
    repeat (first | refine gi_con ?_ | refine gi_bip (Nat.le_of_ble_eq_true rfl) ?_ | refine gi_sip (Nat.le_of_ble_eq_true rfl) ?_ | refine gi_ldc ?_ | refine gi_add ?_ | refine gi_inc rfl ?_ | refine gi_sub (by omega) ?_ | refine gi_mul ?_ | refine go_nx rfl ?_)
    first | refine gb_lt (by omega) (by omega) (fun c2 => ?_) (fun c2 => ?_) | refine gb_ge (by omega) (by omega) (fun c2 => ?_) (fun c2 => ?_) | refine gb_gt (by omega) (by omega) (fun c2 => ?_) (fun c2 => ?_) | refine gb_le (by omega) (by omega) (fun c2 => ?_) (fun c2 => ?_) | refine gb_eq (by omega) (by omega) (fun c2 => ?_) (fun c2 => ?_) | refine gb_ne (by omega) (by omega) (fun c2 => ?_) (fun c2 => ?_)
    · rw [if_neg c2] at hq
      repeat (first | refine gi_con ?_ | refine gi_bip (Nat.le_of_ble_eq_true rfl) ?_ | refine gi_sip (Nat.le_of_ble_eq_true rfl) ?_ | refine gi_ldc ?_ | refine gi_add ?_ | refine gi_inc rfl ?_ | refine gi_sub (by omega) ?_ | refine gi_mul ?_ | refine go_nx rfl ?_)
      refine go_step ?_
      refine g_callV (by decide) (by decide) (Nat.le_of_ble_eq_true rfl) (Nat.le_of_ble_eq_true rfl) (mSt_rcv hm) (by omega) (Nat.le_of_ble_eq_true rfl) rfl ?_
      rw [Nat.add_assoc]
      refine sp_mwh (by omega) hm hw (by omega) ?_
      repeat (first | refine gi_con ?_ | refine gi_bip (Nat.le_of_ble_eq_true rfl) ?_ | refine gi_sip (Nat.le_of_ble_eq_true rfl) ?_ | refine gi_ldc ?_ | refine gi_add ?_ | refine gi_inc rfl ?_ | refine gi_sub (by omega) ?_ | refine gi_mul ?_ | refine go_nx rfl ?_)
      refine go_step ?_
      refine g_callV (by decide) (by decide) (Nat.le_of_ble_eq_true rfl) (Nat.le_of_ble_eq_true rfl) (mSt_rcv hm) (by omega) (Nat.le_of_ble_eq_true rfl) rfl ?_
      refine sp_mwh (by omega) hm hw (by omega) ?_
      repeat (first | refine gi_con ?_ | refine gi_bip (Nat.le_of_ble_eq_true rfl) ?_ | refine gi_sip (Nat.le_of_ble_eq_true rfl) ?_ | refine gi_ldc ?_ | refine gi_add ?_ | refine gi_inc rfl ?_ | refine gi_sub (by omega) ?_ | refine gi_mul ?_ | refine go_nx rfl ?_)
      refine go_jp rfl ?_
      refine go_rt rfl ?_
      have h1 := q_sz_lt hw.2.2.2.1 v
      have h2 := q_sz_lt hw.2.2.2.1 (v + 4)
      rw [← q_l64 h2 h1] at hq
      exact hq
    · rw [if_pos c2] at hq
      repeat (first | refine gi_con ?_ | refine gi_bip (Nat.le_of_ble_eq_true rfl) ?_ | refine gi_sip (Nat.le_of_ble_eq_true rfl) ?_ | refine gi_ldc ?_ | refine gi_add ?_ | refine gi_inc rfl ?_ | refine gi_sub (by omega) ?_ | refine gi_mul ?_ | refine go_nx rfl ?_)
      refine go_step ?_
      refine g_callV (by decide) (by decide) (Nat.le_of_ble_eq_true rfl) (Nat.le_of_ble_eq_true rfl) (mSt_rcv hm) (by omega) (Nat.le_of_ble_eq_true rfl) rfl ?_
      refine sp_mat2 hm hw (by omega) ?_
      have hB := hw.2.2.2.1 v
      rw [← nI_l (by omega)] at hq
      repeat (first | refine gi_con ?_ | refine gi_bip (Nat.le_of_ble_eq_true rfl) ?_ | refine gi_sip (Nat.le_of_ble_eq_true rfl) ?_ | refine gi_ldc ?_ | refine gi_add ?_ | refine gi_inc rfl ?_ | refine gi_sub (by omega) ?_ | refine gi_mul ?_ | refine go_nx rfl ?_)
      refine go_jp rfl ?_
      refine go_rt rfl ?_
      exact hq
  · rw [if_pos c1] at hq
    repeat (first | refine gi_con ?_ | refine gi_bip (Nat.le_of_ble_eq_true rfl) ?_ | refine gi_sip (Nat.le_of_ble_eq_true rfl) ?_ | refine gi_ldc ?_ | refine gi_add ?_ | refine gi_inc rfl ?_ | refine gi_sub (by omega) ?_ | refine gi_mul ?_ | refine go_nx rfl ?_)
    refine go_step ?_
    refine g_callV (by decide) (by decide) (Nat.le_of_ble_eq_true rfl) (Nat.le_of_ble_eq_true rfl) (mSt_rcv hm) (by omega) (Nat.le_of_ble_eq_true rfl) rfl ?_
    refine sp_mwh (by omega) hm hw (by omega) ?_
    repeat (first | refine gi_con ?_ | refine gi_bip (Nat.le_of_ble_eq_true rfl) ?_ | refine gi_sip (Nat.le_of_ble_eq_true rfl) ?_ | refine gi_ldc ?_ | refine gi_add ?_ | refine gi_inc rfl ?_ | refine gi_sub (by omega) ?_ | refine gi_mul ?_ | refine go_nx rfl ?_)
    refine go_rt rfl ?_
    exact hq
end M
