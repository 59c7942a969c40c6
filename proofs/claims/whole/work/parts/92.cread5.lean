/-! THE CLASS: the whole document -/
section W
variable {u : Nat → Bool} {B N ord : Nat → Nat} {h : mmH} {row : Nat}
theorem q_pre_el : ∀ {k v stop : Nat} {rw_ : Bool}, q_box u B k v stop rw_ = true → ∀ x ∈ q_pre B k v, ∃ lev last, lev < k ∧ last ≤ q_last B v ∧ x < last ∧ q_ne B x < last ∧ q_vok (q_box u B lev) B x last = true := by
  intro k
  induction k with
  | zero => intro v stop rw_ h; cases h
  | succ k ih =>
    intro v stop rw_ h x hx
    obtain ⟨g1, g2, g3, g4⟩ := q_box_at h
    rw [q_pre_s] at hx
    obtain ⟨y, hy, hx⟩ := List.mem_flatMap.mp hx
    obtain ⟨y1, y2, j, y3⟩ := q_els_at _ _ _ g4 y hy
    have he := q_at_el y3 y1
    rcases List.mem_cons.mp hx with hx | hx
    · rw [hx]
      exact ⟨k, _, Nat.lt_succ_self _, Nat.le_refl _, y1, he.1, he.2.1⟩
    · have hb := q_at_box he.2.1
      split at hx
      · rename_i h34
        rcases h34 with h3 | h4
        · obtain ⟨lev, last, e1, e2, e3⟩ := ih (hb.1 h3) x hx
          have hle := q_box_le (hb.1 h3)
          exact ⟨lev, last, by omega, by unfold q_last at e2 hle ⊢; omega, e3⟩
        · obtain ⟨lev, last, e1, e2, e3⟩ := ih (hb.2 h4) x hx
          have hle := q_box_le (hb.2 h4)
          exact ⟨lev, last, by omega, by unfold q_last at e2 hle ⊢; omega, e3⟩
      · cases hx
theorem nBox_cell : ∀ {k v : Nat}, nBox h row B N ord k v → ∀ y ∈ q_pre B k v, ∃ fi nx, h.2.2 (N y) = some (nCell row B y (q_tf B y) (q_tt B y) (q_nu B y) fi nx (nI (ord y))) := by
  intro k
  induction k with
  | zero => intro v _ y hy; cases hy
  | succ k ih =>
    intro v hb y hy
    rw [q_pre_s] at hy
    rw [nBox_s] at hb
    obtain ⟨x, hx, hy⟩ := List.mem_flatMap.mp hy
    obtain ⟨c1, c2⟩ := hb x hx
    rcases List.mem_cons.mp hy with hy | hy
    · rw [hy]
      exact ⟨_, _, c1⟩
    · split at hy
      · rename_i h34
        exact ih (c2 h34) y hy
      · cases hy
theorem q_vok_split {k : Nat} (ih : ∀ v stop rw_, q_box u B k v stop rw_ = (q_box qtt B k v stop rw_ && (q_pre B k v).all u)) (p last : Nat) : q_vok (q_box u B k) B p last = (q_vok (q_box qtt B k) B p last && (q_sub2 B k p).all u) := by
  unfold q_vok q_sub2
  by_cases h3 : B p = 3
  · rw [if_neg (by omega), if_neg (by omega), if_neg (by omega), if_neg (by omega), if_neg (by omega), if_pos h3, if_neg (by omega), if_neg (by omega), if_neg (by omega), if_neg (by omega), if_neg (by omega), if_pos h3, if_pos (Or.inl h3)]
    exact ih _ _ _
  by_cases h4 : B p = 4
  · rw [if_neg (by omega), if_neg (by omega), if_neg (by omega), if_neg (by omega), if_neg (by omega), if_neg h3, if_pos h4, if_neg (by omega), if_neg (by omega), if_neg (by omega), if_neg (by omega), if_neg (by omega), if_neg h3, if_pos h4, if_pos (Or.inr h4)]
    exact ih _ _ _
  simp [h3, h4]
theorem q_ch_split {k last : Nat} {rw_ : Bool} (ih : ∀ v stop rw_, q_box u B k v stop rw_ = (q_box qtt B k v stop rw_ && (q_pre B k v).all u)) : ∀ (f : Nat) (prev : List Nat) (p : Nat), q_ch u (q_box u B k) B rw_ last f prev p = (q_ch qtt (q_box qtt B k) B rw_ last f prev p && (q_preL B k (q_els B last f p)).all u) := by
  intro f
  induction f with
  | zero => intro prev p; rfl
  | succ f ihf =>
    intro prev p
    rw [q_ch, q_ch, q_els_s]
    by_cases hp : p < last
    · rw [if_pos hp, if_pos hp, if_pos hp, ihf]
      have e : q_preL B k (p :: q_els B last f (q_next B p)) = (p :: q_sub2 B k p) ++ q_preL B k (q_els B last f (q_next B p)) := rfl
      rw [e, List.all_append, List.all_cons]
      unfold q_el
      rw [q_vok_split ih]
      show (_ && (q_vok (q_box qtt B k) B p last && (q_sub2 B k p).all u) && u p && _) = (_ && q_vok (q_box qtt B k) B p last && true && _ && _)
      generalize decide (q_ne B p < last) = b1
      generalize q_nm B rw_ prev p = b2
      generalize q_vok (q_box qtt B k) B p last = b3
      generalize (q_sub2 B k p).all u = b4
      generalize u p = b5
      generalize (q_preL B k (q_els B last f (q_next B p))).all u = b6
      generalize q_ch qtt (q_box qtt B k) B rw_ last f (prev ++ [p]) (q_next B p) = b7
      revert b1 b2 b3 b4 b5 b6 b7
      decide
    · rw [if_neg hp, if_neg hp, if_neg hp]
      rw [show (q_preL B k []).all u = true from rfl, Bool.and_true]
theorem q_box_split : ∀ (k v stop : Nat) (rw_ : Bool), q_box u B k v stop rw_ = (q_box qtt B k v stop rw_ && (q_pre B k v).all u) := by
  intro k
  induction k with
  | zero => intro v stop rw_; rfl
  | succ k ih =>
    intro v stop rw_
    rw [q_box, q_box, q_pre_s, q_ch_split ih]
    show _ = (_ && _ && (q_preL B k (q_els B (q_last B v) 2001 (v + 4))).all u)
    rw [Bool.and_assoc, Bool.and_assoc, Bool.and_assoc, Bool.and_assoc]
    simp only [Bool.and_assoc]
end W
section C
variable {E : mmE} {d : Nat} {h : mmH} {Q : Option Value → mmH → Prop} {r la ed cap row n : Nat} {B N : Nat → Nat}
theorem sp_rtexts {A : Nat} {w : Bool} {Ps : List Nat} (hd : 4 ≤ d) (hr : h.2.2 r = some (rdC la row A w)) (hl : aL E h la ed cap (Ps.map N)) (hb : bRow h row n B) (hrow : q_row B n)
    (hP : ∀ x ∈ Ps, x < n ∧ q_ne B x < n ∧ (∃ fi nx od, h.2.2 (N x) = some (nCell row B x (q_tf B x) (q_tt B x) (q_nu B x) fi nx od)) ∧ (B x = 2 → 1 ≤ q_sz B (q_val B x) ∧ q_val B x + 4 + q_sz B (q_val B x) ≤ n))
    (hq : Q (some (.int (q_t (Ps.all (q_u8 B))))) h) : mm_Go E d 53 (mm_blk 53 0) [.ref r, mm_un, mm_un] [] h Q := by
  have hn := hb.1
  have hr' : h.2.2 r = some (.inr (2, [.ref la, .ref row, .int (nI A), .int (q_t w)])) := hr
  have hll := aL_len hl
  have hlen : (Ps.map N).length = Ps.length := List.length_map ..
  have hcap := hl.2.2
  rw [hlen] at hll
  have loop : ∀ (l : List Nat) (i : Nat) (x2 : Value), i + l.length = Ps.length → Ps.drop i = l → Q (some (.int (q_t (l.all (q_u8 B))))) h → mm_Go E d 53 (mm_blk 53 1) [.ref r, .int (nI i), x2] [] h Q := by
    intro l
    induction l with
    | nil =>
      intro i x2 hi hdr hq
      have hi : i = Ps.length := hi
      repeat (first | refine gi_con ?_ | refine gi_bip (Nat.le_of_ble_eq_true rfl) ?_ | refine gi_sip (Nat.le_of_ble_eq_true rfl) ?_ | refine gi_ldc ?_ | refine gi_add ?_ | refine gi_inc rfl ?_ | refine gi_sub (by omega) ?_ | refine gi_mul ?_ | refine go_nx rfl ?_)
      refine gf_get _ hr' (by decide) rfl ?_
      repeat (first | refine gi_con ?_ | refine gi_bip (Nat.le_of_ble_eq_true rfl) ?_ | refine gi_sip (Nat.le_of_ble_eq_true rfl) ?_ | refine gi_ldc ?_ | refine gi_add ?_ | refine gi_inc rfl ?_ | refine gi_sub (by omega) ?_ | refine gi_mul ?_ | refine go_nx rfl ?_)
      refine go_step ?_
      refine g_callV (by decide) (by decide) (Nat.le_of_ble_eq_true rfl) (Nat.le_of_ble_eq_true rfl) (aL_rcv hl) (by omega) (Nat.le_of_ble_eq_true rfl) rfl ?_
      refine sp_size hl ?_
      rw [hlen]
      first | refine gb_lt (by omega) (by omega) (fun c => ?_) (fun c => ?_) | refine gb_ge (by omega) (by omega) (fun c => ?_) (fun c => ?_) | refine gb_gt (by omega) (by omega) (fun c => ?_) (fun c => ?_) | refine gb_le (by omega) (by omega) (fun c => ?_) (fun c => ?_) | refine gb_eq (by omega) (by omega) (fun c => ?_) (fun c => ?_) | refine gb_ne (by omega) (by omega) (fun c => ?_) (fun c => ?_)
      · repeat (first | refine gi_con ?_ | refine gi_bip (Nat.le_of_ble_eq_true rfl) ?_ | refine gi_sip (Nat.le_of_ble_eq_true rfl) ?_ | refine gi_ldc ?_ | refine gi_add ?_ | refine gi_inc rfl ?_ | refine gi_sub (by omega) ?_ | refine gi_mul ?_ | refine go_nx rfl ?_)
        refine go_rt rfl ?_
        exact hq
      · omega
    | cons x l ih =>
      intro i x2 hi hdr hq
      rw [List.length_cons] at hi
      have hil : i < Ps.length := by omega
      have hgx : Ps[i]? = some x := by
        have : (Ps.drop i)[0]? = some x := by rw [hdr]; rfl
        rw [List.getElem?_drop] at this
        exact this
      have hx : x ∈ Ps := List.mem_of_getElem? hgx
      obtain ⟨x1, x2', ⟨fi, nx, od, x3⟩, x4⟩ := hP x hx
      have hxn := q_ne_is hrow (show x ≤ 2000 by omega)
      have x3' : h.2.2 (N x) = some (.inr (4, [.ref row, .int (nI (B x)), .int (nI x), .int (nI (q_ne B x)), .int (nI (q_word B x)), .int (nI (q_cls (B x))), .int (q_tf B x), .int (q_tt B x), .long (q_nu B x), fi, nx, .int od])) := x3
      have two : q_u8 B x = false → mm_Go E d 53 (mm_blk 53 2) [.ref r, .int (nI i), .ref (N x)] [] h Q := by
        intro e
        rw [List.all_cons, e] at hq
        repeat (first | refine gi_con ?_ | refine gi_bip (Nat.le_of_ble_eq_true rfl) ?_ | refine gi_sip (Nat.le_of_ble_eq_true rfl) ?_ | refine gi_ldc ?_ | refine gi_add ?_ | refine gi_inc rfl ?_ | refine gi_sub (by omega) ?_ | refine gi_mul ?_ | refine go_nx rfl ?_)
        refine go_rt rfl ?_
        exact hq
      repeat (first | refine gi_con ?_ | refine gi_bip (Nat.le_of_ble_eq_true rfl) ?_ | refine gi_sip (Nat.le_of_ble_eq_true rfl) ?_ | refine gi_ldc ?_ | refine gi_add ?_ | refine gi_inc rfl ?_ | refine gi_sub (by omega) ?_ | refine gi_mul ?_ | refine go_nx rfl ?_)
      refine gf_get _ hr' (by decide) rfl ?_
      repeat (first | refine gi_con ?_ | refine gi_bip (Nat.le_of_ble_eq_true rfl) ?_ | refine gi_sip (Nat.le_of_ble_eq_true rfl) ?_ | refine gi_ldc ?_ | refine gi_add ?_ | refine gi_inc rfl ?_ | refine gi_sub (by omega) ?_ | refine gi_mul ?_ | refine go_nx rfl ?_)
      refine go_step ?_
      refine g_callV (by decide) (by decide) (Nat.le_of_ble_eq_true rfl) (Nat.le_of_ble_eq_true rfl) (aL_rcv hl) (by omega) (Nat.le_of_ble_eq_true rfl) rfl ?_
      refine sp_size hl ?_
      rw [hlen]
      first | refine gb_lt (by omega) (by omega) (fun c => ?_) (fun c => ?_) | refine gb_ge (by omega) (by omega) (fun c => ?_) (fun c => ?_) | refine gb_gt (by omega) (by omega) (fun c => ?_) (fun c => ?_) | refine gb_le (by omega) (by omega) (fun c => ?_) (fun c => ?_) | refine gb_eq (by omega) (by omega) (fun c => ?_) (fun c => ?_) | refine gb_ne (by omega) (by omega) (fun c => ?_) (fun c => ?_)
      · omega
      repeat (first | refine gi_con ?_ | refine gi_bip (Nat.le_of_ble_eq_true rfl) ?_ | refine gi_sip (Nat.le_of_ble_eq_true rfl) ?_ | refine gi_ldc ?_ | refine gi_add ?_ | refine gi_inc rfl ?_ | refine gi_sub (by omega) ?_ | refine gi_mul ?_ | refine go_nx rfl ?_)
      refine gf_get _ hr' (by decide) rfl ?_
      repeat (first | refine gi_con ?_ | refine gi_bip (Nat.le_of_ble_eq_true rfl) ?_ | refine gi_sip (Nat.le_of_ble_eq_true rfl) ?_ | refine gi_ldc ?_ | refine gi_add ?_ | refine gi_inc rfl ?_ | refine gi_sub (by omega) ?_ | refine gi_mul ?_ | refine go_nx rfl ?_)
      refine go_step ?_
      refine g_callV (by decide) (by decide) (Nat.le_of_ble_eq_true rfl) (Nat.le_of_ble_eq_true rfl) (aL_rcv hl) (by omega) (Nat.le_of_ble_eq_true rfl) rfl ?_
      refine sp_get (by omega) hl (by omega) ?_
      have hget : (Ps.map N).getD i 0 = N x := by
        rw [List.getD_eq_getElem?_getD, List.getElem?_map, hgx]
        rfl
      rw [hget]
      refine gc_cast0 x3' rfl rfl ?_
      repeat (first | refine gi_con ?_ | refine gi_bip (Nat.le_of_ble_eq_true rfl) ?_ | refine gi_sip (Nat.le_of_ble_eq_true rfl) ?_ | refine gi_ldc ?_ | refine gi_add ?_ | refine gi_inc rfl ?_ | refine gi_sub (by omega) ?_ | refine gi_mul ?_ | refine go_nx rfl ?_)
      refine gf_get _ hr' (by decide) rfl ?_
      repeat (first | refine gi_con ?_ | refine gi_bip (Nat.le_of_ble_eq_true rfl) ?_ | refine gi_sip (Nat.le_of_ble_eq_true rfl) ?_ | refine gi_ldc ?_ | refine gi_add ?_ | refine gi_inc rfl ?_ | refine gi_sub (by omega) ?_ | refine gi_mul ?_ | refine go_nx rfl ?_)
      refine go_step ?_
      refine g_callV (by decide) (by decide) (Nat.le_of_ble_eq_true rfl) (Nat.le_of_ble_eq_true rfl) (o_rcv x3' rfl (by decide)) (by omega) (Nat.le_of_ble_eq_true rfl) rfl ?_
      refine sp_nmFrom x3' rfl ?_
      repeat (first | refine gi_con ?_ | refine gi_bip (Nat.le_of_ble_eq_true rfl) ?_ | refine gi_sip (Nat.le_of_ble_eq_true rfl) ?_ | refine gi_ldc ?_ | refine gi_add ?_ | refine gi_inc rfl ?_ | refine gi_sub (by omega) ?_ | refine gi_mul ?_ | refine go_nx rfl ?_)
      refine gf_get _ x3' (by decide) rfl ?_
      repeat (first | refine gi_con ?_ | refine gi_bip (Nat.le_of_ble_eq_true rfl) ?_ | refine gi_sip (Nat.le_of_ble_eq_true rfl) ?_ | refine gi_ldc ?_ | refine gi_add ?_ | refine gi_inc rfl ?_ | refine gi_sub (by omega) ?_ | refine gi_mul ?_ | refine go_nx rfl ?_)
      refine go_step ?_
      refine g_call (k := 9) rfl (by omega) (Nat.le_of_ble_eq_true rfl) rfl ?_
      refine sp_utf (by omega) hb (by omega) (by omega) ?_
      refine gt_eq (fun c1 => ?_) (fun c1 => ?_)
      · refine two ?_
        rw [q_u8_tx, c1]
        rfl
      repeat (first | refine gi_con ?_ | refine gi_bip (Nat.le_of_ble_eq_true rfl) ?_ | refine gi_sip (Nat.le_of_ble_eq_true rfl) ?_ | refine gi_ldc ?_ | refine gi_add ?_ | refine gi_inc rfl ?_ | refine gi_sub (by omega) ?_ | refine gi_mul ?_ | refine go_nx rfl ?_)
      refine gf_get _ hr' (by decide) rfl ?_
      repeat (first | refine gi_con ?_ | refine gi_bip (Nat.le_of_ble_eq_true rfl) ?_ | refine gi_sip (Nat.le_of_ble_eq_true rfl) ?_ | refine gi_ldc ?_ | refine gi_add ?_ | refine gi_inc rfl ?_ | refine gi_sub (by omega) ?_ | refine gi_mul ?_ | refine go_nx rfl ?_)
      refine gf_get _ x3' (by decide) rfl ?_
      repeat (first | refine gi_con ?_ | refine gi_bip (Nat.le_of_ble_eq_true rfl) ?_ | refine gi_sip (Nat.le_of_ble_eq_true rfl) ?_ | refine gi_ldc ?_ | refine gi_add ?_ | refine gi_inc rfl ?_ | refine gi_sub (by omega) ?_ | refine gi_mul ?_ | refine go_nx rfl ?_)
      refine gf_get _ x3' (by decide) rfl ?_
      rw [List.all_cons, q_u8_tx, c1, Bool.true_and] at hq
      have fin : ∀ b : Bool, b = q_tx B x → mm_Go E d 53 [(58, .ifCond .ne 5, [3]), (61, .nop, [2])] [.ref r, .int (nI i), .ref (N x)] [.int (q_t b)] h Q := by
        intro b hb2
        rw [← hb2] at hq
        refine gt_ne (fun c2 => ?_) (fun c2 => ?_)
        · rw [c2, Bool.true_and] at hq
          repeat (first | refine gi_con ?_ | refine gi_bip (Nat.le_of_ble_eq_true rfl) ?_ | refine gi_sip (Nat.le_of_ble_eq_true rfl) ?_ | refine gi_ldc ?_ | refine gi_add ?_ | refine gi_inc rfl ?_ | refine gi_sub (by omega) ?_ | refine gi_mul ?_ | refine go_nx rfl ?_)
          refine go_jp rfl ?_
          exact ih (i + 1) _ (by omega) (by rw [← List.drop_drop, hdr]; rfl) hq
        · refine go_jp rfl ?_
          refine two ?_
          rw [q_u8_tx, ← hb2, c2, Bool.and_false]
      by_cases hk2 : B x = 2
      · obtain ⟨t1, t2⟩ := x4 hk2
        rw [show q_tf B x = nI (q_val B x + 4) from if_pos hk2, show q_tt B x = nI (q_val B x + 3 + q_sz B (q_val B x)) from if_pos hk2]
        repeat (first | refine gi_con ?_ | refine gi_bip (Nat.le_of_ble_eq_true rfl) ?_ | refine gi_sip (Nat.le_of_ble_eq_true rfl) ?_ | refine gi_ldc ?_ | refine gi_add ?_ | refine gi_inc rfl ?_ | refine gi_sub (by omega) ?_ | refine gi_mul ?_ | refine go_nx rfl ?_)
        refine go_step ?_
        refine g_call (k := 9) rfl (by omega) (Nat.le_of_ble_eq_true rfl) rfl ?_
        refine sp_utf (by omega) hb (by omega) (by omega) ?_
        exact fin _ (if_pos hk2).symm
      · rw [show q_tf B x = nI 0 from if_neg hk2, show q_tt B x = nI 0 from if_neg hk2]
        repeat (first | refine gi_con ?_ | refine gi_bip (Nat.le_of_ble_eq_true rfl) ?_ | refine gi_sip (Nat.le_of_ble_eq_true rfl) ?_ | refine gi_ldc ?_ | refine gi_add ?_ | refine gi_inc rfl ?_ | refine gi_sub (by omega) ?_ | refine gi_mul ?_ | refine go_nx rfl ?_)
        refine go_step ?_
        refine g_call (k := 9) rfl (by omega) (Nat.le_of_ble_eq_true rfl) rfl ?_
        refine sp_utf (by omega) hb (by omega) (by omega) ?_
        exact fin _ (if_neg hk2).symm
  repeat (first | refine gi_con ?_ | refine gi_bip (Nat.le_of_ble_eq_true rfl) ?_ | refine gi_sip (Nat.le_of_ble_eq_true rfl) ?_ | refine gi_ldc ?_ | refine gi_add ?_ | refine gi_inc rfl ?_ | refine gi_sub (by omega) ?_ | refine gi_mul ?_ | refine go_nx rfl ?_)
  refine go_jp rfl ?_
  exact loop Ps 0 _ (by omega) rfl hq
/-- a new reader -/
theorem sp_rnew (hd : 3 ≤ d) (hE : sE E) (hk : hOk E h) (hr : h.2.2 r = some (.inr (2, [.null, .null, .int 0, .int 0]))) (hb : bRow h row n B)
    (hq : ∀ h' ed, rdOk E h' r h.1 ed 0 [] row n B 0 → hFr h h' (fun b => b = r) → h'.1 = h.1 + 1 → h'.2.1 = h.2.1 + 3 → ed < E.1 → Q none h') : mm_Go E d 21 (mm_blk 21 0) [.ref r, .ref row] [] h Q := by
  have hrl := hOk_lt hk hr
  repeat (first | refine gi_con ?_ | refine gi_bip (Nat.le_of_ble_eq_true rfl) ?_ | refine gi_sip (Nat.le_of_ble_eq_true rfl) ?_ | refine gi_ldc ?_ | refine gi_add ?_ | refine gi_inc rfl ?_ | refine gi_sub (by omega) ?_ | refine gi_mul ?_ | refine go_nx rfl ?_)
  generalize hg0 : mm_new h (mm_defs (mm_k0 _)).length (.inr (mm_k0 _, mm_defs (mm_k0 _))) = g0
  have hg0' : g0 = mm_new h 3 (.inr (3, [.null, .int 0, .int 0])) := hg0.symm
  subst hg0'
  clear hg0
  have k0 := hOk_new (E := E) (n := 3) (c := .inr (3, [.null, .int 0, .int 0])) hk
  refine go_step ?_
  refine g_call (k := 22) rfl (by omega) (Nat.le_of_ble_eq_true rfl) rfl ?_
  refine sp_linit (fs := []) (by omega) hE k0 hn_at (fun ed he ha => ?_)
  rw [hn_set] at ha ⊢
  have hedE : ed < E.1 := by
    obtain ⟨⟨t, f, e1, e2, e3⟩, -⟩ := hE
    rw [he] at e1
    cases e1
    exact e3
  have hr1 : (mm_new h 3 (.inr (3, [.ref ed, .int 0, .int 0]))).2.2 r = some (.inr (2, [.null, .null, .int 0, .int 0])) := by rw [hn_ne (by omega)]; exact hr
  repeat (first | refine gi_con ?_ | refine gi_bip (Nat.le_of_ble_eq_true rfl) ?_ | refine gi_sip (Nat.le_of_ble_eq_true rfl) ?_ | refine gi_ldc ?_ | refine gi_add ?_ | refine gi_inc rfl ?_ | refine gi_sub (by omega) ?_ | refine gi_mul ?_ | refine go_nx rfl ?_)
  refine gc_put (fs' := [.ref h.1, .null, .int 0, .int 0]) hr1 rfl (Nat.le_of_ble_eq_true rfl) rfl rfl ?_
  repeat (first | refine gi_con ?_ | refine gi_bip (Nat.le_of_ble_eq_true rfl) ?_ | refine gi_sip (Nat.le_of_ble_eq_true rfl) ?_ | refine gi_ldc ?_ | refine gi_add ?_ | refine gi_inc rfl ?_ | refine gi_sub (by omega) ?_ | refine gi_mul ?_ | refine go_nx rfl ?_)
  refine gc_put (fs' := [.ref h.1, .ref row, .int 0, .int 0]) hs_at rfl (Nat.le_of_ble_eq_true rfl) rfl rfl ?_
  rw [hs_set]
  repeat (first | refine gi_con ?_ | refine gi_bip (Nat.le_of_ble_eq_true rfl) ?_ | refine gi_sip (Nat.le_of_ble_eq_true rfl) ?_ | refine gi_ldc ?_ | refine gi_add ?_ | refine gi_inc rfl ?_ | refine gi_sub (by omega) ?_ | refine gi_mul ?_ | refine go_nx rfl ?_)
  refine gc_put (fs' := [.ref h.1, .ref row, .int (nI 0), .int 0]) hs_at rfl (Nat.le_of_ble_eq_true rfl) rfl rfl ?_
  rw [hs_set]
  repeat (first | refine gi_con ?_ | refine gi_bip (Nat.le_of_ble_eq_true rfl) ?_ | refine gi_sip (Nat.le_of_ble_eq_true rfl) ?_ | refine gi_ldc ?_ | refine gi_add ?_ | refine gi_inc rfl ?_ | refine gi_sub (by omega) ?_ | refine gi_mul ?_ | refine go_nx rfl ?_)
  refine gc_put (fs' := [.ref h.1, .ref row, .int (nI 0), .int (nI 0)]) hs_at rfl (Nat.le_of_ble_eq_true rfl) rfl rfl ?_
  rw [hs_set]
  refine go_rt rfl ?_
  have k1 := hOk_new (E := E) (n := 3) (c := .inr (3, [.ref ed, .int 0, .int 0])) hk
  have hb1 : bRow (mm_new h 3 (.inr (3, [.ref ed, .int 0, .int 0]))) row n B := bRow_eq hb (hn_ne (by
    obtain ⟨-, ⟨f, r2, -⟩, -⟩ := hb
    have := hOk_lt hk r2
    omega))
  refine hq (mm_set (mm_new h 3 (.inr (3, [.ref ed, .int 0, .int 0]))) r (rdC h.1 row 0 false)) ed ⟨hs_at, aL_fr ha (hs_ne (by omega)) (fun ⟨x, hx⟩ => hs_ne (fun q => by rw [← q] at hr1; rw [hr1] at hx; cases hx)), hOk_set2 k1 hr1, bRow_set hb1 hr1, by simp, by omega⟩ (hFr_set2 hFr_new (Or.inl rfl)) rfl rfl hedE
theorem sp_rwhole (hd : 70 ≤ d) (hE : sE E) (hSt : sStr E) (hr : rdOk E h r la ed cap [] row n B 0) (hrow : q_row B n)
    (hS : ∀ h' N' ed' cap', q_doc B n = true → nBox h' row B N' (fun _ => 0) 16 0 → rdNew h h' N' (q_pre B 16 0) → (∀ x ∈ q_pre B 16 0, N' x ≠ h.1) → rdOk E h' r la ed' cap' ((q_pre B 16 0).map N') row n B n → h'.2.2 h.1 = some (rCell row (if 4 < q_last B 0 then .ref (N' 4) else .null)) → hFr h h' (rdV r la ed) → h'.1 ≤ h.1 + 1 + n → h'.2.1 + 4 * cap ≤ h.2.1 + 12 + 6 * n + 4 * cap' → h.2.1 ≤ h'.2.1 → (ed' = ed ∨ h.1 ≤ ed') → Q (some (.ref h.1)) h')
    (hF : ∀ h' cap', q_doc B n = false → hOk E h' → hFr h h' (rdV r la ed) → h'.1 ≤ h.1 + 1 + n → h'.2.1 + 4 * cap ≤ h.2.1 + 12 + 6 * n + 4 * cap' → cap' ≤ n + 10 → h.2.1 ≤ h'.2.1 → Q (some .null) h') : mm_Go E d 25 (mm_blk 25 0) [.ref r, mm_un] [] h Q := by
  have hr0 := hr
  obtain ⟨h1, h2, h3, h4, h5, h6⟩ := hr
  have hn := h4.1
  have h1' : h.2.2 r = some (.inr (2, [.ref la, .ref row, .int (nI 0), .int (q_t false)])) := h1
  have hrl := hOk_lt h3 h1'
  obtain ⟨mc, hla⟩ := h2.1
  have hll := hOk_lt h3 hla
  have hlr : la ≠ r := fun q => by rw [q, h1'] at hla; cases hla
  have hel := aL_ed hE h3 h2
  repeat (first | refine gi_con ?_ | refine gi_bip (Nat.le_of_ble_eq_true rfl) ?_ | refine gi_sip (Nat.le_of_ble_eq_true rfl) ?_ | refine gi_ldc ?_ | refine gi_add ?_ | refine gi_inc rfl ?_ | refine gi_sub (by omega) ?_ | refine gi_mul ?_ | refine go_nx rfl ?_)
  generalize hg0 : mm_new h (mm_defs (mm_k0 _)).length (.inr (mm_k0 _, mm_defs (mm_k0 _))) = g0
  have hg0' : g0 = mm_new h 12 (.inr (4, [.null, .int 0, .int 0, .int 0, .int 0, .int 0, .int 0, .int 0, .long 0, .null, .null, .int 0])) := hg0.symm
  subst hg0'
  clear hg0
  have kr : (mm_new h 12 (.inr (4, [.null, .int 0, .int 0, .int 0, .int 0, .int 0, .int 0, .int 0, .long 0, .null, .null, .int 0]))).2.2 r = some (.inr (2, [.ref la, .ref row, .int (nI 0), .int (q_t false)])) := by rw [hn_ne (by omega)]; exact h1'
  refine gf_get _ kr (by decide) rfl ?_
  repeat (first | refine gi_con ?_ | refine gi_bip (Nat.le_of_ble_eq_true rfl) ?_ | refine gi_sip (Nat.le_of_ble_eq_true rfl) ?_ | refine gi_ldc ?_ | refine gi_add ?_ | refine gi_inc rfl ?_ | refine gi_sub (by omega) ?_ | refine gi_mul ?_ | refine go_nx rfl ?_)
  refine go_step ?_
  refine g_call (k := 26) rfl (by omega) (Nat.le_of_ble_eq_true rfl) rfl ?_
  refine sp_rinit (by omega) hn_at ?_
  rw [hn_set]
  have k1 := hOk_new (E := E) (n := 12) (c := rCell row .null) h3
  have kr1 : (mm_new h 12 (rCell row .null)).2.2 r = some (.inr (2, [.ref la, .ref row, .int (nI 0), .int (q_t false)])) := by rw [hn_ne (by omega)]; exact h1'
  have kl1 : aL E (mm_new h 12 (rCell row .null)) la ed cap [] := aL_fr h2 (hn_ne (by omega)) (fun ⟨x, hx⟩ => hn_ne (by have := hOk_lt h3 hx; omega))
  have kb1 : bRow (mm_new h 12 (rCell row .null)) row n B := bRow_eq h4 (hn_ne (by
    obtain ⟨-, ⟨f, r2, -⟩, -⟩ := h4
    have := hOk_lt h3 r2
    omega))
  have kw : (mm_new h 12 (rCell row .null)).2.2 h.1 = some (.inr (4, [.ref row, .int (nI 3), .int (-1), .int (nI 0), .int (nI 0), .int (nI 4), .int 0, .int 0, .long 0, .null, .null, .int 0])) := hn_at
  have hfrT : ∀ {h2 : mmH}, hFr (mm_new h 12 (rCell row .null)) h2 (rdW r la ed h.1) → hFr h h2 (rdV r la ed) := by
    intro h2 hf
    refine ⟨Nat.le_trans (Nat.le_succ _) hf.1, fun b hb hwb => ?_⟩
    rw [hf.2 b (Nat.lt_succ_of_lt hb) (fun q => ?_), hn_ne (by omega)]
    rcases q with q | q | q | q
    · exact hwb (Or.inl q)
    · exact hwb (Or.inr (Or.inl q))
    · exact hwb (Or.inr (Or.inr q))
    · omega
  obtain ⟨f0, hrf, -⟩ := kb1.2.1
  have hdoc : q_doc B n = (decide (q_sz B 0 = n) && (q_box qtt B 16 0 n false && (q_pre B 16 0).all (q_u8 B))) := by
    unfold q_doc
    rw [q_box_split]
  repeat (first | refine gi_con ?_ | refine gi_bip (Nat.le_of_ble_eq_true rfl) ?_ | refine gi_sip (Nat.le_of_ble_eq_true rfl) ?_ | refine gi_ldc ?_ | refine gi_add ?_ | refine gi_inc rfl ?_ | refine gi_sub (by omega) ?_ | refine gi_mul ?_ | refine go_nx rfl ?_)
  refine gf_get _ kr1 (by decide) rfl ?_
  refine gc_alen hrf rfl ?_
  repeat (first | refine gi_con ?_ | refine gi_bip (Nat.le_of_ble_eq_true rfl) ?_ | refine gi_sip (Nat.le_of_ble_eq_true rfl) ?_ | refine gi_ldc ?_ | refine gi_add ?_ | refine gi_inc rfl ?_ | refine gi_sub (by omega) ?_ | refine gi_mul ?_ | refine go_nx rfl ?_)
  refine go_step ?_
  refine g_callV (by decide) (by decide) (Nat.le_of_ble_eq_true rfl) (Nat.le_of_ble_eq_true rfl) (o_rcv kr1 rfl (by decide)) (by omega) (Nat.le_of_ble_eq_true rfl) rfl ?_
  refine sp_rparts hE hSt hrow 16 (d - 1) (by omega) (by omega) (mm_new h 12 (rCell row .null)) r la ed cap [] h.1 _ 0 n (fun _ => 0) 3 _ ⟨kr1, kl1, k1, kb1, by simp, by omega⟩ kw rfl rfl (Or.inl rfl) rfl (by omega) (Nat.le_refl _) (fun h' N' ed' cap' hv c1 c2 c3 c4 c5 c6 c7 c8 => ?_) (fun h' A' cap' fi hv c1 c2 c3 c4 c5 c6 c7 => ?_)
  · have c4r : h'.2.2 r = some (.inr (2, [.ref la, .ref row, .int (nI (0 + q_sz B 0)), .int (q_t false)])) := c4.1
    rw [Nat.zero_add] at c4r
    have c4b := c4.2.2.2.1
    obtain ⟨f1, hrf1, -⟩ := c4b.2.1
    have hbl := q_box_le hv
    obtain ⟨m1, m2, m3, m4⟩ := c7
    have m1 : h'.1 + 0 ≤ h.1 + 1 + (0 + q_sz B 0) := m1
    have m2 : h'.2.1 + 4 * cap + 6 * 0 ≤ h.2.1 + 12 + 6 * (0 + q_sz B 0) + 4 * cap' := m2
    have m4 : h.2.1 + 12 ≤ h'.2.1 := m4
    have c46 := c4.2.2.2.2.2
    have bad : q_doc B n = false → mm_Go E d 25 (mm_blk 25 1) [.ref r, .ref h.1] [] h' Q := by
      intro e
      repeat (first | refine gi_con ?_ | refine gi_bip (Nat.le_of_ble_eq_true rfl) ?_ | refine gi_sip (Nat.le_of_ble_eq_true rfl) ?_ | refine gi_ldc ?_ | refine gi_add ?_ | refine gi_inc rfl ?_ | refine gi_sub (by omega) ?_ | refine gi_mul ?_ | refine go_nx rfl ?_)
      refine go_jp rfl ?_
      refine go_rt rfl ?_
      exact hF h' cap' e c4.2.2.1 (hfrT c6) (by omega) (by omega) (by omega) (by omega)
    repeat (first | refine gi_con ?_ | refine gi_bip (Nat.le_of_ble_eq_true rfl) ?_ | refine gi_sip (Nat.le_of_ble_eq_true rfl) ?_ | refine gi_ldc ?_ | refine gi_add ?_ | refine gi_inc rfl ?_ | refine gi_sub (by omega) ?_ | refine gi_mul ?_ | refine go_nx rfl ?_)
    refine gf_get _ c4r (by decide) rfl ?_
    refine gt_ne (fun c => by cases c) (fun _ => ?_)
    repeat (first | refine gi_con ?_ | refine gi_bip (Nat.le_of_ble_eq_true rfl) ?_ | refine gi_sip (Nat.le_of_ble_eq_true rfl) ?_ | refine gi_ldc ?_ | refine gi_add ?_ | refine gi_inc rfl ?_ | refine gi_sub (by omega) ?_ | refine gi_mul ?_ | refine go_nx rfl ?_)
    refine gf_get _ c4r (by decide) rfl ?_
    repeat (first | refine gi_con ?_ | refine gi_bip (Nat.le_of_ble_eq_true rfl) ?_ | refine gi_sip (Nat.le_of_ble_eq_true rfl) ?_ | refine gi_ldc ?_ | refine gi_add ?_ | refine gi_inc rfl ?_ | refine gi_sub (by omega) ?_ | refine gi_mul ?_ | refine go_nx rfl ?_)
    refine gf_get _ c4r (by decide) rfl ?_
    refine gc_alen hrf1 rfl ?_
    first | refine gb_lt (by omega) (by omega) (fun c9 => ?_) (fun c9 => ?_) | refine gb_ge (by omega) (by omega) (fun c9 => ?_) (fun c9 => ?_) | refine gb_gt (by omega) (by omega) (fun c9 => ?_) (fun c9 => ?_) | refine gb_le (by omega) (by omega) (fun c9 => ?_) (fun c9 => ?_) | refine gb_eq (by omega) (by omega) (fun c9 => ?_) (fun c9 => ?_) | refine gb_ne (by omega) (by omega) (fun c9 => ?_) (fun c9 => ?_)
    · refine bad ?_
      rw [hdoc, decide_eq_false c9, Bool.false_and]
    repeat (first | refine gi_con ?_ | refine gi_bip (Nat.le_of_ble_eq_true rfl) ?_ | refine gi_sip (Nat.le_of_ble_eq_true rfl) ?_ | refine gi_ldc ?_ | refine gi_add ?_ | refine gi_inc rfl ?_ | refine gi_sub (by omega) ?_ | refine gi_mul ?_ | refine go_nx rfl ?_)
    refine go_step ?_
    refine g_callV (by decide) (by decide) (Nat.le_of_ble_eq_true rfl) (Nat.le_of_ble_eq_true rfl) (o_rcv c4r rfl (by decide)) (by omega) (Nat.le_of_ble_eq_true rfl) rfl ?_
    have hP : ∀ x ∈ q_pre B 16 0, x < n ∧ q_ne B x < n ∧ (∃ fi nx od, h'.2.2 (N' x) = some (nCell row B x (q_tf B x) (q_tt B x) (q_nu B x) fi nx od)) ∧ (B x = 2 → 1 ≤ q_sz B (q_val B x) ∧ q_val B x + 4 + q_sz B (q_val B x) ≤ n) := by
      intro x hx
      obtain ⟨lev, last, e1, e2, e3, e4, e5⟩ := q_pre_el hv x hx
      obtain ⟨fi, nx, e6⟩ := nBox_cell c2 x hx
      have e7 : last ≤ n := by unfold q_last at e2; omega
      refine ⟨by omega, by omega, ⟨fi, nx, _, e6⟩, fun hk2 => ?_⟩
      unfold q_vok at e5
      rw [if_neg (by omega), if_neg (by omega), if_neg (by omega), if_pos hk2] at e5
      simp only [Bool.and_eq_true, decide_eq_true_eq] at e5
      omega
    refine sp_rtexts (N := N') (Ps := q_pre B 16 0) (by omega) c4r c4.2.1 c4b hrow hP ?_
    refine gt_ne (fun c10 => ?_) (fun c10 => ?_)
    · repeat (first | refine gi_con ?_ | refine gi_bip (Nat.le_of_ble_eq_true rfl) ?_ | refine gi_sip (Nat.le_of_ble_eq_true rfl) ?_ | refine gi_ldc ?_ | refine gi_add ?_ | refine gi_inc rfl ?_ | refine gi_sub (by omega) ?_ | refine gi_mul ?_ | refine go_nx rfl ?_)
      refine go_jp rfl ?_
      refine go_rt rfl ?_
      have c31 : ∀ x ∈ q_pre B 16 0, h.1 + 1 ≤ N' x ∧ N' x < h'.1 := c3.1
      refine hS h' N' ed' cap' (by rw [hdoc, decide_eq_true c9]; exact Bool.and_eq_true_iff.mpr ⟨rfl, Bool.and_eq_true_iff.mpr ⟨hv, c10⟩⟩) c2 ⟨fun x hx => by have := c31 x hx; omega, c3.2⟩ (fun x hx => by have := c31 x hx; omega) ?_ c5 (hfrT c6) (by omega) (by omega) (by omega) (c8.imp_right (fun q => by have q : h.1 + 1 ≤ ed' := q; omega))
      rw [Nat.zero_add, c9] at c4
      exact c4
    · refine go_jp rfl ?_
      refine bad ?_
      rw [hdoc, c10, Bool.and_false, Bool.and_false]
  · have c1' : h'.2.2 r = some (.inr (2, [.ref la, .ref row, .int (nI A'), .int (q_t true)])) := c1
    obtain ⟨m1, m2, m3, m4⟩ := c5
    have m1 : h'.1 + 0 ≤ h.1 + 1 + A' := m1
    have m2 : h'.2.1 + 4 * cap + 6 * 0 ≤ h.2.1 + 12 + 6 * A' + 4 * cap' := m2
    have m4 : h.2.1 + 12 ≤ h'.2.1 := m4
    repeat (first | refine gi_con ?_ | refine gi_bip (Nat.le_of_ble_eq_true rfl) ?_ | refine gi_sip (Nat.le_of_ble_eq_true rfl) ?_ | refine gi_ldc ?_ | refine gi_add ?_ | refine gi_inc rfl ?_ | refine gi_sub (by omega) ?_ | refine gi_mul ?_ | refine go_nx rfl ?_)
    refine gf_get _ c1' (by decide) rfl ?_
    refine gt_ne (fun _ => ?_) (fun c => by cases c)
    repeat (first | refine gi_con ?_ | refine gi_bip (Nat.le_of_ble_eq_true rfl) ?_ | refine gi_sip (Nat.le_of_ble_eq_true rfl) ?_ | refine gi_ldc ?_ | refine gi_add ?_ | refine gi_inc rfl ?_ | refine gi_sub (by omega) ?_ | refine gi_mul ?_ | refine go_nx rfl ?_)
    refine go_jp rfl ?_
    refine go_rt rfl ?_
    have hv : q_box qtt B 16 0 n false = false := hv
    exact hF h' cap' (by rw [hdoc, hv, Bool.false_and, Bool.and_false]) c3 (hfrT c4) (by omega) (by omega) (by omega) (by omega)
end C
