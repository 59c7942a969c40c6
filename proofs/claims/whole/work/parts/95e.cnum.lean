/-! THE CLASS: the numbers of the values -/
def q_srt (f : Nat → Nat → Int32) (S : List Nat) : Prop := ∀ i j, i < j → j < S.length → f (S.getD i 0) (S.getD j 0) ≠ 1
theorem l_at_mem {l : List Nat} {i x y : Nat} : y ∈ l_at l i x ↔ y = x ∨ y ∈ l := by
  unfold l_at
  have h : l.take i ++ l.drop i = l := List.take_append_drop i l
  constructor
  · intro q
    rcases List.mem_append.mp q with q | q
    · exact Or.inr (by rw [← h]; exact List.mem_append.mpr (Or.inl q))
    · rcases List.mem_cons.mp q with q | q
      · exact Or.inl q
      · exact Or.inr (by rw [← h]; exact List.mem_append.mpr (Or.inr q))
  · intro q
    rcases q with q | q
    · exact List.mem_append.mpr (Or.inr (List.mem_cons.mpr (Or.inl q)))
    · rw [← h] at q
      rcases List.mem_append.mp q with q | q
      · exact List.mem_append.mpr (Or.inl q)
      · exact List.mem_append.mpr (Or.inr (List.mem_cons.mpr (Or.inr q)))
theorem srt_at {f : Nat → Nat → Int32} (T : qTot f) {S : List Nat} {c x : Nat} (hs : q_srt f S) (hc : c ≤ S.length) (h1 : ∀ i, i < c → f (S.getD i 0) x ≠ 1) (h2 : ∀ i, c ≤ i → i < S.length → f (S.getD i 0) x = 1) : q_srt f (l_at S c x) := by
  intro i j hij hj
  rw [l_at_len hc] at hj
  rw [l_at_get hc, l_at_get hc]
  by_cases a1 : i < c
  · rw [if_pos a1]
    by_cases a2 : j < c
    · rw [if_pos a2]
      exact hs i j hij (by omega)
    · rw [if_neg a2]
      by_cases a3 : j = c
      · rw [if_pos a3]
        exact h1 i a1
      · rw [if_neg a3]
        exact hs i (j - 1) (by omega) (by omega)
  · rw [if_neg a1, if_neg (show ¬ j < c by omega), if_neg (show ¬ j = c by omega)]
    by_cases a4 : i = c
    · rw [if_pos a4]
      have := (tot_sw T).2.1 (h2 (j - 1) (by omega) (by omega))
      rw [this]
      decide
    · rw [if_neg a4]
      exact hs (i - 1) (j - 1) (by omega) (by omega)
def q_rk (f : Nat → Nat → Int32) (S : List Nat) : Nat → Nat
  | 0 => 0
  | i + 1 => q_rk f S i + if f (S.getD i 0) (S.getD (i + 1) 0) = 0 then 0 else 1
theorem q_rk_le (f : Nat → Nat → Int32) (S : List Nat) : ∀ i, q_rk f S i ≤ i := by
  intro i
  induction i with
  | zero => exact Nat.le_refl _
  | succ i ih =>
    unfold q_rk
    split <;> omega
theorem rk_up {f : Nat → Nat → Int32} (T : qTot f) {S : List Nat} (hs : q_srt f S) (i : Nat) : ∀ m, i + m < S.length → (f (S.getD i 0) (S.getD (i + m) 0) ≠ 1) ∧ (f (S.getD i 0) (S.getD (i + m) 0) = 0 → q_rk f S i = q_rk f S (i + m)) ∧ (f (S.getD i 0) (S.getD (i + m) 0) = -1 → q_rk f S i < q_rk f S (i + m)) := by
  intro m
  induction m with
  | zero =>
    intro _
    rw [Nat.add_zero, T.2.1]
    exact ⟨by decide, fun _ => rfl, fun q => absurd q (by decide)⟩
  | succ m ih =>
    intro hm
    obtain ⟨a1, a2, a3⟩ := ih (by omega)
    have b1 := hs (i + m) (i + m + 1) (by omega) (by omega)
    obtain ⟨c1, c2⟩ := tot_le T a1 b1
    have hr : q_rk f S (i + (m + 1)) = q_rk f S (i + m) + if f (S.getD (i + m) 0) (S.getD (i + m + 1) 0) = 0 then 0 else 1 := rfl
    refine ⟨c1, fun q => ?_, fun q => ?_⟩
    · obtain ⟨d1, d2⟩ := c2 q
      rw [hr, if_pos d2, a2 d1]
      rfl
    · rw [hr]
      have g := (T.2.2 (S.getD i 0) (S.getD (i + m) 0) (S.getD (i + m + 1) 0)).1
      rcases T.1 (S.getD i 0) (S.getD (i + m) 0) with e | e | e
      · have := a3 e
        omega
      · have e2 := g e
        have q : f (S.getD i 0) (S.getD (i + m + 1) 0) = -1 := q
        rw [q] at e2
        rw [if_neg (by rw [← e2]; decide), a2 e]
        omega
      · exact absurd e a1
theorem rk_ok {f : Nat → Nat → Int32} (T : qTot f) {S : List Nat} (hs : q_srt f S) {i j : Nat} (hi : i < S.length) (hj : j < S.length) : f (S.getD i 0) (S.getD j 0) = q_c3 (q_rk f S i) (q_rk f S j) := by
  have up : ∀ i j, i ≤ j → j < S.length → f (S.getD i 0) (S.getD j 0) = q_c3 (q_rk f S i) (q_rk f S j) := by
    intro i j hij hj
    obtain ⟨m, rfl⟩ : ∃ m, j = i + m := ⟨j - i, by omega⟩
    obtain ⟨a1, a2, a3⟩ := rk_up T hs i m hj
    rcases T.1 (S.getD i 0) (S.getD (i + m) 0) with e | e | e
    · rw [e, c3_lt.mpr (a3 e)]
    · rw [e, q_c3_0.mpr (a2 e)]
    · exact absurd e a1
  by_cases h : i ≤ j
  · exact up i j h hj
  · have u := up j i (by omega) hi
    have sw := tot_sw T (x := S.getD j 0) (y := S.getD i 0)
    rcases V_c3 (q_rk f S j) (q_rk f S i) with e | e | e
    · rw [sw.2.2 (u.trans e), c3_gt.mpr (c3_lt.mp e)]
    · rw [sw.1 (u.trans e), q_c3_0.mpr (q_c3_0.mp e).symm]
    · rw [sw.2.1 (u.trans e), c3_lt.mpr (c3_gt.mp e)]
theorem mem_getD {l : List Nat} {x : Nat} (h : x ∈ l) : ∃ i, i < l.length ∧ l.getD i 0 = x := by
  obtain ⟨i, hi, e⟩ := List.getElem_of_mem h
  exact ⟨i, hi, by rw [List.getD_eq_getElem?_getD, List.getElem?_eq_getElem hi]; exact e⟩
theorem map_getD {l : List Nat} {N : Nat → Nat} {i : Nat} (hi : i < l.length) : (l.map N).getD i 0 = N (l.getD i 0) := by
  rw [List.getD_eq_getElem?_getD, List.getD_eq_getElem?_getD, List.getElem?_map, List.getElem?_eq_getElem hi]
  rfl
section C
variable {E : mmE} {h : mmH} {row n : Nat} {B N : Nat → Nat}
theorem gc_zle {d m pc : Nat} {is : List mmI} {L S : List Value} {h : mmH} {Q : Option Value → mmH → Prop} {ex : List Nat} {off : Int} {x : Int32} (hv : q_V x) (h1 : x ≠ 1 → mm_Go E d m (mm_blk m (mm_k0 ex)) L S h Q) (h2 : x = 1 → mm_Go E d m is L S h Q) : mm_Go E d m ((pc, .ifCond .le off, ex) :: is) L (.int x :: S) h Q :=
  go_br (c := decide (x ≤ 0)) rfl (fun c => h1 (fun q => by rw [q] at c; exact absurd c (by decide))) (fun c => h2 (by
    rcases hv with q | q | q
    · rw [q] at c; exact absurd c (by decide)
    · rw [q] at c; exact absurd c (by decide)
    · exact q))
theorem sp_cng {d : Nat} {Q : Option Value → mmH → Prop} {so ed cap x : Nat} {S : List Nat} {f : Nat → Nat → Int32} (T : qTot f) (hd : 3 ≤ d) (hl : aL E h so ed cap (S.map N)) (hs : q_srt f S) (hcell : ∀ y ∈ S, ∃ c, h.2.2 (N y) = some (.inr (4, c)))
    (hcmp : ∀ y ∈ S, ∀ Q' : Option Value → mmH → Prop, Q' (some (.int (f y x))) h → mm_Go E (d - 1) 71 (mm_blk 71 0) [.ref (N y), .ref (N x), .int (nI 1)] [] h Q')
    (hq : ∀ c, c ≤ S.length → (∀ i, i < c → f (S.getD i 0) x ≠ 1) → (∀ i, c ≤ i → i < S.length → f (S.getD i 0) x = 1) → Q (some (.int (nI c))) h) : mm_Go E d 70 (mm_blk 70 0) [.ref so, .ref (N x), mm_un, mm_un, mm_un] [] h Q := by
  have hll := aL_len hl
  have hcap := hl.2.2
  rw [List.length_map] at hll
  have loop : ∀ (m lo hi : Nat) (x4 : Value), hi - lo ≤ m → lo ≤ hi → hi ≤ S.length → (∀ i, i < lo → f (S.getD i 0) x ≠ 1) → (∀ i, hi ≤ i → i < S.length → f (S.getD i 0) x = 1) → mm_Go E d 70 (mm_blk 70 1) [.ref so, .ref (N x), .int (nI lo), .int (nI hi), x4] [] h Q := by
    intro m
    induction m with
    | zero =>
      intro lo hi x4 hm h1 h2 h3 h4
      repeat (first | refine gi_con ?_ | refine gi_bip (Nat.le_of_ble_eq_true rfl) ?_ | refine gi_sip (Nat.le_of_ble_eq_true rfl) ?_ | refine gi_ldc ?_ | refine gi_add ?_ | refine gi_inc rfl ?_ | refine gi_sub (by omega) ?_ | refine gi_mul ?_ | refine go_nx rfl ?_)
      first | refine gb_lt (by omega) (by omega) (fun c => ?_) (fun c => ?_) | refine gb_ge (by omega) (by omega) (fun c => ?_) (fun c => ?_) | refine gb_gt (by omega) (by omega) (fun c => ?_) (fun c => ?_) | refine gb_le (by omega) (by omega) (fun c => ?_) (fun c => ?_) | refine gb_eq (by omega) (by omega) (fun c => ?_) (fun c => ?_) | refine gb_ne (by omega) (by omega) (fun c => ?_) (fun c => ?_)
      · repeat (first | refine gi_con ?_ | refine gi_bip (Nat.le_of_ble_eq_true rfl) ?_ | refine gi_sip (Nat.le_of_ble_eq_true rfl) ?_ | refine gi_ldc ?_ | refine gi_add ?_ | refine gi_inc rfl ?_ | refine gi_sub (by omega) ?_ | refine gi_mul ?_ | refine go_nx rfl ?_)
        refine go_rt rfl ?_
        exact hq lo (by omega) h3 (fun i hi1 hi2 => h4 i (by omega) hi2)
      · omega
    | succ m ih =>
      intro lo hi x4 hm h1 h2 h3 h4
      repeat (first | refine gi_con ?_ | refine gi_bip (Nat.le_of_ble_eq_true rfl) ?_ | refine gi_sip (Nat.le_of_ble_eq_true rfl) ?_ | refine gi_ldc ?_ | refine gi_add ?_ | refine gi_inc rfl ?_ | refine gi_sub (by omega) ?_ | refine gi_mul ?_ | refine go_nx rfl ?_)
      first | refine gb_lt (by omega) (by omega) (fun c => ?_) (fun c => ?_) | refine gb_ge (by omega) (by omega) (fun c => ?_) (fun c => ?_) | refine gb_gt (by omega) (by omega) (fun c => ?_) (fun c => ?_) | refine gb_le (by omega) (by omega) (fun c => ?_) (fun c => ?_) | refine gb_eq (by omega) (by omega) (fun c => ?_) (fun c => ?_) | refine gb_ne (by omega) (by omega) (fun c => ?_) (fun c => ?_)
      · repeat (first | refine gi_con ?_ | refine gi_bip (Nat.le_of_ble_eq_true rfl) ?_ | refine gi_sip (Nat.le_of_ble_eq_true rfl) ?_ | refine gi_ldc ?_ | refine gi_add ?_ | refine gi_inc rfl ?_ | refine gi_sub (by omega) ?_ | refine gi_mul ?_ | refine go_nx rfl ?_)
        refine go_rt rfl ?_
        exact hq lo (by omega) h3 (fun i hi1 hi2 => h4 i (by omega) hi2)
      repeat (first | refine gi_con ?_ | refine gi_bip (Nat.le_of_ble_eq_true rfl) ?_ | refine gi_sip (Nat.le_of_ble_eq_true rfl) ?_ | refine gi_ldc ?_ | refine gi_add ?_ | refine gi_inc rfl ?_ | refine gi_sub (by omega) ?_ | refine gi_mul ?_ | refine go_nx rfl ?_)
      rw [nI_ushr (by omega)]
      refine go_step ?_
      refine g_callV (by decide) (by decide) (Nat.le_of_ble_eq_true rfl) (Nat.le_of_ble_eq_true rfl) (aL_rcv hl) (by omega) (Nat.le_of_ble_eq_true rfl) rfl ?_
      refine sp_get (by omega) hl (by rw [List.length_map]; omega) ?_
      have hmid : (lo + hi) / 2 < S.length := by omega
      rw [map_getD hmid]
      have hmem : S.getD ((lo + hi) / 2) 0 ∈ S := getD_mem hmid
      obtain ⟨cc, hcc⟩ := hcell _ hmem
      refine gc_cast0 hcc rfl rfl ?_
      repeat (first | refine gi_con ?_ | refine gi_bip (Nat.le_of_ble_eq_true rfl) ?_ | refine gi_sip (Nat.le_of_ble_eq_true rfl) ?_ | refine gi_ldc ?_ | refine gi_add ?_ | refine gi_inc rfl ?_ | refine gi_sub (by omega) ?_ | refine gi_mul ?_ | refine go_nx rfl ?_)
      refine go_step ?_
      refine g_call (k := 71) rfl (by omega) (Nat.le_of_ble_eq_true rfl) rfl ?_
      refine hcmp _ hmem _ ?_
      refine gc_zle (T.1 _ _) (fun c2 => ?_) (fun c2 => ?_)
      · repeat (first | refine gi_con ?_ | refine gi_bip (Nat.le_of_ble_eq_true rfl) ?_ | refine gi_sip (Nat.le_of_ble_eq_true rfl) ?_ | refine gi_ldc ?_ | refine gi_add ?_ | refine gi_inc rfl ?_ | refine gi_sub (by omega) ?_ | refine gi_mul ?_ | refine go_nx rfl ?_)
        refine go_jp rfl ?_
        refine go_jp rfl ?_
        refine ih _ _ _ (by omega) (by omega) h2 (fun i hi1 => ?_) h4
        by_cases hi2 : i = (lo + hi) / 2
        · rw [hi2]
          exact c2
        · exact (tot_le T (hs i ((lo + hi) / 2) (by omega) hmid) c2).1
      · repeat (first | refine gi_con ?_ | refine gi_bip (Nat.le_of_ble_eq_true rfl) ?_ | refine gi_sip (Nat.le_of_ble_eq_true rfl) ?_ | refine gi_ldc ?_ | refine gi_add ?_ | refine gi_inc rfl ?_ | refine gi_sub (by omega) ?_ | refine gi_mul ?_ | refine go_nx rfl ?_)
        refine go_jp rfl ?_
        refine go_jp rfl ?_
        refine ih _ _ _ (by omega) (by omega) (by omega) h3 (fun i hi1 hi2 => ?_)
        by_cases hi3 : i = (lo + hi) / 2
        · rw [hi3]
          exact c2
        · have a1 := hs ((lo + hi) / 2) i (by omega) hi2
          rcases T.1 (S.getD i 0) x with e | e | e
          · exact absurd c2 (tot_le T a1 (by rw [e]; decide)).1
          · exact absurd c2 (tot_le T a1 (by rw [e]; decide)).1
          · exact e
  repeat (first | refine gi_con ?_ | refine gi_bip (Nat.le_of_ble_eq_true rfl) ?_ | refine gi_sip (Nat.le_of_ble_eq_true rfl) ?_ | refine gi_ldc ?_ | refine gi_add ?_ | refine gi_inc rfl ?_ | refine gi_sub (by omega) ?_ | refine gi_mul ?_ | refine go_nx rfl ?_)
  refine go_step ?_
  refine g_callV (by decide) (by decide) (Nat.le_of_ble_eq_true rfl) (Nat.le_of_ble_eq_true rfl) (aL_rcv hl) (by omega) (Nat.le_of_ble_eq_true rfl) rfl ?_
  refine sp_size hl ?_
  rw [List.length_map]
  repeat (first | refine gi_con ?_ | refine gi_bip (Nat.le_of_ble_eq_true rfl) ?_ | refine gi_sip (Nat.le_of_ble_eq_true rfl) ?_ | refine gi_ldc ?_ | refine gi_add ?_ | refine gi_inc rfl ?_ | refine gi_sub (by omega) ?_ | refine gi_mul ?_ | refine go_nx rfl ?_)
  refine go_jp rfl ?_
  exact loop S.length 0 S.length _ (by omega) (by omega) (Nat.le_refl _) (fun i hi => by omega) (fun i h1 h2 => by omega)
theorem nBox_el {ord : Nat → Nat} : ∀ {k v stop : Nat} {rw_ : Bool}, q_box (q_u8 B) B k v stop rw_ = true → stop ≤ n → nBox h row B N ord k v → ∀ x ∈ q_pre B k v, ∃ lev lim, lev < k ∧ q_me B n x lev ∧ nEl h row B N ord lev lim x := by
  intro k
  induction k with
  | zero => intro v stop rw_ h; cases h
  | succ k ih =>
    intro v stop rw_ hb hst hn x hx
    obtain ⟨g1, g2, g3, g4⟩ := q_box_at hb
    rw [q_pre_s] at hx
    rw [nBox_s] at hn
    obtain ⟨y, hy, hx⟩ := List.mem_flatMap.mp hx
    obtain ⟨y1, y2, j, y3⟩ := q_els_at _ _ _ g4 y hy
    have hlast : q_last B v ≤ n := by unfold q_last; omega
    rcases List.mem_cons.mp hx with hx | hx
    · rw [hx]
      exact ⟨k, q_last B v, Nat.lt_succ_self _, q_me_at y3 y1 hlast, hn y hy⟩
    · have he := q_at_el y3 y1
      have hbx := q_at_box he.2.1
      split at hx
      · rename_i h34
        rcases h34 with h3 | h4
        · obtain ⟨lev, lim, e1, e2, e3⟩ := ih (hbx.1 h3) hlast ((hn y hy).2 (Or.inl h3)) x hx
          exact ⟨lev, lim, by omega, e2, e3⟩
        · obtain ⟨lev, lim, e1, e2, e3⟩ := ih (hbx.2 h4) hlast ((hn y hy).2 (Or.inr h4)) x hx
          exact ⟨lev, lim, by omega, e2, e3⟩
      · cases hx
theorem nBox_ord {O : Nat → Nat} {x r : Nat} {fi nx : Value} {od : Int32} (hx : h.2.2 (N x) = some (nCell row B x (q_tf B x) (q_tt B x) (q_nu B x) fi nx od)) : ∀ {k v : Nat}, (∀ y ∈ q_pre B k v, N y = N x → y = x) → nBox h row B N O k v → nBox (mm_set h (N x) (nCell row B x (q_tf B x) (q_tt B x) (q_nu B x) fi nx (nI r))) row B N (uf O x r) k v := by
  intro k
  induction k with
  | zero => intro v _ _; trivial
  | succ k ih =>
    intro v hin hb
    rw [q_pre_s] at hin
    rw [nBox_s] at hb ⊢
    intro y hy
    obtain ⟨c1, c2⟩ := hb y hy
    refine ⟨?_, fun h34 => ih (fun z hz => hin z (List.mem_flatMap.mpr ⟨y, hy, List.mem_cons_of_mem _ (by rw [if_pos h34]; exact hz)⟩)) (c2 h34)⟩
    by_cases hyx : N y = N x
    · have e := hin y (List.mem_flatMap.mpr ⟨y, hy, List.mem_cons_self⟩) hyx
      subst e
      rw [hs_at]
      rw [c1] at hx
      unfold nFull nCell at hx
      simp only [Option.some.injEq, Sum.inr.injEq, Prod.mk.injEq, List.cons.injEq, true_and, and_true] at hx
      unfold nFull
      rw [uf_at, hx.1, hx.2.1]
    · rw [hs_ne hyx, c1]
      unfold nFull
      rw [uf_ne (fun q => hyx (by rw [q]))]
end C
