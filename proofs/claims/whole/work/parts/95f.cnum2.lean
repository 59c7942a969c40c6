/-! THE CLASS: Order.number -/
section C
variable {E : mmE} {h : mmH} {row n : Nat} {B N : Nat → Nat}
theorem take_succ_mem {l : List Nat} {i y : Nat} (hi : i < l.length) : y ∈ l.take (i + 1) ↔ y = l.getD i 0 ∨ y ∈ l.take i := by
  rw [List.take_succ, List.getElem?_eq_getElem hi, List.getD_eq_getElem?_getD, List.getElem?_eq_getElem hi]
  simp only [Option.toList_some, List.mem_append, List.mem_singleton, Option.getD_some]
  exact ⟨fun q => q.elim Or.inr Or.inl, fun q => q.elim Or.inr Or.inl⟩
theorem sp_number {d : Nat} {Q : Option Value → mmH → Prop} {la ed cap : Nat} (hd : 60 ≤ d) (hE : sE E) (hk : hOk E h) (hr : bRow h row n B) (hrow : q_row B n) (hl : aL E h la ed cap ((q_pre B 16 0).map N)) (hbx : q_box (q_u8 B) B 16 0 n false = true) (hnb : nBox h row B N (fun _ => 0) 16 0) (hinj : ∀ x ∈ q_pre B 16 0, ∀ y ∈ q_pre B 16 0, N x = N y → x = y) (hlen : (q_pre B 16 0).length ≤ 1000)
    (hq : ∀ h' O, nBox h' row B N O 16 0 → (∀ x ∈ q_pre B 16 0, ∀ y ∈ q_pre B 16 0, q_c3 (O x) (O y) = q_ord B B 17 x y) → (∀ x ∈ q_pre B 16 0, O x ≤ 1000) → hOk E h' → hFr h h' (fun b => ∃ y ∈ q_pre B 16 0, b = N y) → h'.1 ≤ h.1 + 1 + (q_pre B 16 0).length → h'.2.1 ≤ h.2.1 + 43 + 8 * (q_pre B 16 0).length → h.2.1 ≤ h'.2.1 → Q none h') : mm_Go E d 69 (mm_blk 69 0) [.ref la, mm_un, mm_un, mm_un, mm_un] [] h Q := by
  have T := q_tot B 17
  generalize hf : q_ord B B 17 = f at T hq
  generalize hPs : q_pre B 16 0 = Ps at hl hinj hlen hq
  have hcell0 := nBox_cell hnb
  rw [hPs] at hcell0
  /- comparing, while the nodes stand -/
  have hcmp : ∀ (h1 : mmH) (O : Nat → Nat) (d2 x y : Nat) (Q' : Option Value → mmH → Prop), 40 ≤ d2 → bRow h1 row n B → nBox h1 row B N O 16 0 → x ∈ Ps → y ∈ Ps → Q' (some (.int (f x y))) h1 → mm_Go E d2 71 (mm_blk 71 0) [.ref (N x), .ref (N y), .int (nI 1)] [] h1 Q' := by
    intro h1 O d2 x y Q' hd2 hr1 hn1 hx hy hq'
    rw [← hPs] at hx hy
    obtain ⟨l1, m1, a1, a2, a3⟩ := nBox_el hbx (Nat.le_refl _) hn1 x hx
    obtain ⟨l2, m2, b1, b2, b3⟩ := nBox_el hbx (Nat.le_refl _) hn1 y hy
    rw [← hf] at hq'
    exact sp_ccmp hr1 hrow 17 d2 x y l1 l2 m1 m2 1 Q' (by omega) (by omega) (by omega) (by omega) a2 b2 a3 b3 hq'
  repeat (first | refine gi_con ?_ | refine gi_bip (Nat.le_of_ble_eq_true rfl) ?_ | refine gi_sip (Nat.le_of_ble_eq_true rfl) ?_ | refine gi_ldc ?_ | refine gi_add ?_ | refine gi_inc rfl ?_ | refine gi_sub (by omega) ?_ | refine gi_mul ?_ | refine go_nx rfl ?_)
  generalize hg0 : mm_new h (mm_defs (mm_k0 _)).length (.inr (mm_k0 _, mm_defs (mm_k0 _))) = g0
  have hg0' : g0 = mm_new h 3 (.inr (3, [.null, .int 0, .int 0])) := hg0.symm
  subst hg0'
  clear hg0
  have k0 := hOk_new (E := E) (n := 3) (c := .inr (3, [.null, .int 0, .int 0])) hk
  refine go_step ?_
  refine g_call (k := 22) rfl (by omega) (Nat.le_of_ble_eq_true rfl) rfl ?_
  refine sp_linit (fs := []) (by omega) hE k0 hn_at (fun ed0 he0 ha0 => ?_)
  rw [hn_set] at ha0 ⊢
  have hedE : ed0 < E.1 := by
    obtain ⟨⟨t, g, e1, e2, e3⟩, -⟩ := hE
    rw [he0] at e1
    cases e1
    exact e3
  have k1 := hOk_new (E := E) (n := 3) (c := .inr (3, [.ref ed0, .int 0, .int 0])) hk
  /- what a heap keeps that leaves the old cells -/
  have keep : ∀ {h1 : mmH}, hFr h h1 (fun _ => False) → (∀ b c, h.2.2 b = some (.inr (4, c)) → h1.2.2 b = h.2.2 b) ∧ bRow h1 row n B ∧ aL E h1 la ed cap (Ps.map N) := by
    intro h1 hf1
    refine ⟨fun b c hb => hf1.2 b (hOk_lt hk hb) id, bRow_eq hr ?_, aL_fr hl ?_ (fun ⟨x, hx⟩ => hf1.2 ed (hOk_lt hk hx) id)⟩
    · obtain ⟨-, ⟨g, r2, -⟩, -⟩ := hr
      exact hf1.2 row (hOk_lt hk r2) id
    · obtain ⟨mc, hm⟩ := hl.1
      exact hf1.2 la (hOk_lt hk hm) id
  have hlenN : (Ps.map N).length = Ps.length := List.length_map ..
  /- the second loop -/
  have loop2 : ∀ (h1 : mmH) (ed1 cap1 : Nat) (S : List Nat), aL E h1 h.1 ed1 cap1 (S.map N) → q_srt f S → S.length = Ps.length → (∀ y ∈ S, y ∈ Ps) → (∀ y ∈ Ps, y ∈ S) → hFr h h1 (fun _ => False) → h1.1 ≤ h.1 + 1 + Ps.length → h1.2.1 ≤ h.2.1 + 43 + 8 * Ps.length → h.2.1 ≤ h1.2.1 →
      ∀ (m i : Nat) (h2 : mmH) (O : Nat → Nat) (x4 : Value), m + i = S.length → nBox h2 row B N O 16 0 → (∀ j, j < i → O (S.getD j 0) = q_rk f S j) → hOk E h2 → hFr h1 h2 (fun b => ∃ y ∈ Ps, b = N y) → h2.1 = h1.1 → h2.2.1 = h1.2.1 → (∀ b, (∀ c, h1.2.2 b ≠ some (.inr (4, c))) → h2.2.2 b = h1.2.2 b) → mm_Go E d 69 (mm_blk 69 3) [.ref la, .ref h.1, .int (nI (if i = 0 then 0 else q_rk f S (i - 1))), .int (nI i), x4] [] h2 Q := by
    intro h1 ed1 cap1 S s1 s2 s3 s4 s5 s6 s7 s8 s9 m
    have hlenS : (S.map N).length = S.length := List.length_map ..
    induction m with
    | zero =>
      intro i h2 O x4 hm t1 t2 t3 t4 t5 t6 t7
      have s1' : aL E h2 h.1 ed1 cap1 (S.map N) := aL_fr s1 (t7 _ (fun c q => by obtain ⟨mc, hm⟩ := s1.1; rw [hm] at q; cases q)) (fun ⟨x, hx⟩ => t7 _ (fun c q => by rw [hx] at q; cases q))
      repeat (first | refine gi_con ?_ | refine gi_bip (Nat.le_of_ble_eq_true rfl) ?_ | refine gi_sip (Nat.le_of_ble_eq_true rfl) ?_ | refine gi_ldc ?_ | refine gi_add ?_ | refine gi_inc rfl ?_ | refine gi_sub (by omega) ?_ | refine gi_mul ?_ | refine go_nx rfl ?_)
      refine go_step ?_
      refine g_callV (by decide) (by decide) (Nat.le_of_ble_eq_true rfl) (Nat.le_of_ble_eq_true rfl) (aL_rcv s1') (by omega) (Nat.le_of_ble_eq_true rfl) rfl ?_
      refine sp_size s1' ?_
      rw [hlenS]
      first | refine gb_lt (by omega) (by omega) (fun c => ?_) (fun c => ?_) | refine gb_ge (by omega) (by omega) (fun c => ?_) (fun c => ?_) | refine gb_gt (by omega) (by omega) (fun c => ?_) (fun c => ?_) | refine gb_le (by omega) (by omega) (fun c => ?_) (fun c => ?_) | refine gb_eq (by omega) (by omega) (fun c => ?_) (fun c => ?_) | refine gb_ne (by omega) (by omega) (fun c => ?_) (fun c => ?_)
      rotate_left
      · omega
      refine go_rt rfl ?_
      have hO : ∀ x ∈ Ps, ∃ i, i < S.length ∧ S.getD i 0 = x ∧ O x = q_rk f S i := by
        intro x hx
        obtain ⟨j, hj, e⟩ := mem_getD (s5 x hx)
        exact ⟨j, hj, e, by rw [← e]; exact t2 j (by omega)⟩
      refine hq h2 O t1 (fun x hx y hy => ?_) (fun x hx => ?_) t3 ?_ (by omega) (by omega) (by omega)
      · obtain ⟨i1, a1, a2, a3⟩ := hO x hx
        obtain ⟨j1, b1, b2, b3⟩ := hO y hy
        rw [a3, b3, ← rk_ok T s2 a1 b1, a2, b2]
      · obtain ⟨i1, a1, a2, a3⟩ := hO x hx
        have := q_rk_le f S i1
        omega
      · refine ⟨by have := s6.1; omega, fun b hb hw => ?_⟩
        have e1 := s6.2 b hb id
        rw [t4.2 b (Nat.lt_of_lt_of_le hb s6.1) hw, e1]
    | succ m ih =>
      intro i h2 O x4 hm t1 t2 t3 t4 t5 t6 t7
      have s1' : aL E h2 h.1 ed1 cap1 (S.map N) := aL_fr s1 (t7 _ (fun c q => by obtain ⟨mc, hm⟩ := s1.1; rw [hm] at q; cases q)) (fun ⟨x, hx⟩ => t7 _ (fun c q => by rw [hx] at q; cases q))
      have hbr := (keep s6).2.1
      have hbr2 : bRow h2 row n B := bRow_eq hbr (t7 _ (fun c q => by obtain ⟨-, ⟨g, r2, -⟩, -⟩ := hbr; rw [r2] at q; cases q))
      have hiS : i < S.length := by omega
      have hxm : S.getD i 0 ∈ S := getD_mem hiS
      have hxP := s4 _ hxm
      have cells := nBox_cell t1
      rw [hPs] at cells
      obtain ⟨fi, nx, hcx⟩ := cells _ hxP
      have hcx' : h2.2.2 (N (S.getD i 0)) = some (.inr (4, [.ref row, .int (nI (B (S.getD i 0))), .int (nI (S.getD i 0)), .int (nI (q_ne B (S.getD i 0))), .int (nI (q_word B (S.getD i 0))), .int (nI (q_cls (B (S.getD i 0)))), .int (q_tf B (S.getD i 0)), .int (q_tt B (S.getD i 0)), .long (q_nu B (S.getD i 0)), fi, nx, .int (nI (O (S.getD i 0)))])) := hcx
      repeat (first | refine gi_con ?_ | refine gi_bip (Nat.le_of_ble_eq_true rfl) ?_ | refine gi_sip (Nat.le_of_ble_eq_true rfl) ?_ | refine gi_ldc ?_ | refine gi_add ?_ | refine gi_inc rfl ?_ | refine gi_sub (by omega) ?_ | refine gi_mul ?_ | refine go_nx rfl ?_)
      refine go_step ?_
      refine g_callV (by decide) (by decide) (Nat.le_of_ble_eq_true rfl) (Nat.le_of_ble_eq_true rfl) (aL_rcv s1') (by omega) (Nat.le_of_ble_eq_true rfl) rfl ?_
      refine sp_size s1' ?_
      rw [hlenS]
      first | refine gb_lt (by omega) (by omega) (fun c => ?_) (fun c => ?_) | refine gb_ge (by omega) (by omega) (fun c => ?_) (fun c => ?_) | refine gb_gt (by omega) (by omega) (fun c => ?_) (fun c => ?_) | refine gb_le (by omega) (by omega) (fun c => ?_) (fun c => ?_) | refine gb_eq (by omega) (by omega) (fun c => ?_) (fun c => ?_) | refine gb_ne (by omega) (by omega) (fun c => ?_) (fun c => ?_)
      · omega
      repeat (first | refine gi_con ?_ | refine gi_bip (Nat.le_of_ble_eq_true rfl) ?_ | refine gi_sip (Nat.le_of_ble_eq_true rfl) ?_ | refine gi_ldc ?_ | refine gi_add ?_ | refine gi_inc rfl ?_ | refine gi_sub (by omega) ?_ | refine gi_mul ?_ | refine go_nx rfl ?_)
      refine go_step ?_
      refine g_callV (by decide) (by decide) (Nat.le_of_ble_eq_true rfl) (Nat.le_of_ble_eq_true rfl) (aL_rcv s1') (by omega) (Nat.le_of_ble_eq_true rfl) rfl ?_
      refine sp_get (by omega) s1' (by omega) ?_
      rw [map_getD hiS]
      refine gc_cast0 hcx' rfl rfl ?_
      have four : mm_Go E d 69 (mm_blk 69 4) [.ref la, .ref h.1, .int (nI (q_rk f S i)), .int (nI i), .ref (N (S.getD i 0))] [] h2 Q := by
        repeat (first | refine gi_con ?_ | refine gi_bip (Nat.le_of_ble_eq_true rfl) ?_ | refine gi_sip (Nat.le_of_ble_eq_true rfl) ?_ | refine gi_ldc ?_ | refine gi_add ?_ | refine gi_inc rfl ?_ | refine gi_sub (by omega) ?_ | refine gi_mul ?_ | refine go_nx rfl ?_)
        refine gc_put (fs' := [.ref row, .int (nI (B (S.getD i 0))), .int (nI (S.getD i 0)), .int (nI (q_ne B (S.getD i 0))), .int (nI (q_word B (S.getD i 0))), .int (nI (q_cls (B (S.getD i 0)))), .int (q_tf B (S.getD i 0)), .int (q_tt B (S.getD i 0)), .long (q_nu B (S.getD i 0)), fi, nx, .int (nI (q_rk f S i))]) hcx' rfl (Nat.le_of_ble_eq_true rfl) rfl rfl ?_
        repeat (first | refine gi_con ?_ | refine gi_bip (Nat.le_of_ble_eq_true rfl) ?_ | refine gi_sip (Nat.le_of_ble_eq_true rfl) ?_ | refine gi_ldc ?_ | refine gi_add ?_ | refine gi_inc rfl ?_ | refine gi_sub (by omega) ?_ | refine gi_mul ?_ | refine go_nx rfl ?_)
        refine go_jp rfl ?_
        have := ih (i + 1) (mm_set h2 (N (S.getD i 0)) (nCell row B (S.getD i 0) (q_tf B (S.getD i 0)) (q_tt B (S.getD i 0)) (q_nu B (S.getD i 0)) fi nx (nI (q_rk f S i)))) (uf O (S.getD i 0) (q_rk f S i)) (.ref (N (S.getD i 0))) (by omega) (nBox_ord hcx (fun y hy e => hinj y (by rw [← hPs]; exact hy) _ hxP e) t1) (fun j hj => ?_) (hOk_set2 t3 hcx') (hFr_set2 t4 (Or.inl ⟨_, hxP, rfl⟩)) t5 t6 (fun b hb => ?_)
        · rw [if_neg (Nat.succ_ne_zero i), Nat.add_sub_cancel] at this
          exact this
        · by_cases hj2 : S.getD j 0 = S.getD i 0
          · rw [hj2, uf_at]
            have e := rk_ok T s2 (show j < S.length by omega) hiS
            rw [hj2, T.2.1] at e
            exact (q_c3_0.mp e.symm).symm
          · rw [uf_ne hj2]
            by_cases hj3 : j = i
            · rw [hj3] at hj2
              exact absurd rfl hj2
            · exact t2 j (by omega)
        · rw [hs_ne (fun q => ?_), t7 b hb]
          have e := t7 b hb
          rw [q, hcx'] at e
          exact hb _ (by rw [q]; exact e.symm)
      repeat (first | refine gi_con ?_ | refine gi_bip (Nat.le_of_ble_eq_true rfl) ?_ | refine gi_sip (Nat.le_of_ble_eq_true rfl) ?_ | refine gi_ldc ?_ | refine gi_add ?_ | refine gi_inc rfl ?_ | refine gi_sub (by omega) ?_ | refine gi_mul ?_ | refine go_nx rfl ?_)
      first | refine gz_eq (by omega) (fun c0 => ?_) (fun c0 => ?_) | refine gz_ne (by omega) (fun c0 => ?_) (fun c0 => ?_) | refine gz_le (by omega) (fun c0 => ?_) (fun c0 => ?_) | refine gz_gt (by omega) (fun c0 => ?_) (fun c0 => ?_) | refine gz_lt (by omega) (fun c0 => ?_) (fun c0 => ?_) | refine gz_ge (by omega) (fun c0 => ?_) (fun c0 => ?_)
      · rw [if_pos c0] 
        rw [show q_rk f S i = 0 by rw [c0]; rfl] at four
        exact four
      rw [if_neg (by omega)]
      repeat (first | refine gi_con ?_ | refine gi_bip (Nat.le_of_ble_eq_true rfl) ?_ | refine gi_sip (Nat.le_of_ble_eq_true rfl) ?_ | refine gi_ldc ?_ | refine gi_add ?_ | refine gi_inc rfl ?_ | refine gi_sub (by omega) ?_ | refine gi_mul ?_ | refine go_nx rfl ?_)
      refine go_step ?_
      refine g_callV (by decide) (by decide) (Nat.le_of_ble_eq_true rfl) (Nat.le_of_ble_eq_true rfl) (aL_rcv s1') (by omega) (Nat.le_of_ble_eq_true rfl) rfl ?_
      refine sp_get (by omega) s1' (by omega) ?_
      have hi1 : i - 1 < S.length := by omega
      rw [map_getD hi1]
      have hym : S.getD (i - 1) 0 ∈ S := getD_mem hi1
      obtain ⟨fi2, nx2, hcy⟩ := cells _ (s4 _ hym)
      refine gc_cast0 hcy rfl rfl ?_
      repeat (first | refine gi_con ?_ | refine gi_bip (Nat.le_of_ble_eq_true rfl) ?_ | refine gi_sip (Nat.le_of_ble_eq_true rfl) ?_ | refine gi_ldc ?_ | refine gi_add ?_ | refine gi_inc rfl ?_ | refine gi_sub (by omega) ?_ | refine gi_mul ?_ | refine go_nx rfl ?_)
      refine go_step ?_
      refine g_call (k := 71) rfl (by omega) (Nat.le_of_ble_eq_true rfl) rfl ?_
      refine hcmp h2 O (d - 1) _ _ _ (by omega) hbr2 t1 (s4 _ hym) hxP ?_
      have hrk : q_rk f S i = q_rk f S (i - 1) + if f (S.getD (i - 1) 0) (S.getD i 0) = 0 then 0 else 1 := by
        obtain ⟨i', rfl⟩ : ∃ i', i = i' + 1 := ⟨i - 1, by omega⟩
        rfl
      refine gx_eq (fun c1 => ?_) (fun c1 => ?_)
      · rw [if_pos c1, Nat.add_zero] at hrk
        rw [hrk] at four
        exact four
      · rw [if_neg c1] at hrk
        rw [hrk] at four
        repeat (first | refine gi_con ?_ | refine gi_bip (Nat.le_of_ble_eq_true rfl) ?_ | refine gi_sip (Nat.le_of_ble_eq_true rfl) ?_ | refine gi_ldc ?_ | refine gi_add ?_ | refine gi_inc rfl ?_ | refine gi_sub (by omega) ?_ | refine gi_mul ?_ | refine go_nx rfl ?_)
        refine go_jp rfl ?_
        exact four
  /- the first loop -/
  have loop1 : ∀ (m i : Nat) (h1 : mmH) (ed1 cap1 : Nat) (S : List Nat) (x3 : Value), m + i = Ps.length → aL E h1 h.1 ed1 cap1 (S.map N) → q_srt f S → S.length = i → (∀ y, y ∈ S ↔ y ∈ Ps.take i) → hOk E h1 → hFr h h1 (fun _ => False) → h1.1 ≤ h.1 + 1 + i → h1.2.1 ≤ h.2.1 + 3 + 4 * cap1 → cap1 ≤ 2 * i + 10 → h.2.1 ≤ h1.2.1 → (ed1 < E.1 ∨ h.1 ≤ ed1) → mm_Go E d 69 (mm_blk 69 1) [.ref la, .ref h.1, .int (nI i), x3, mm_un] [] h1 Q := by
    intro m
    induction m with
    | zero =>
      intro i h1 ed1 cap1 S x3 hm s1 s2 s3 s4 s5 s6 s7 s8 s9 s10 s11
      obtain ⟨p1, p2, p3⟩ := keep s6
      have hi : i = Ps.length := by omega
      repeat (first | refine gi_con ?_ | refine gi_bip (Nat.le_of_ble_eq_true rfl) ?_ | refine gi_sip (Nat.le_of_ble_eq_true rfl) ?_ | refine gi_ldc ?_ | refine gi_add ?_ | refine gi_inc rfl ?_ | refine gi_sub (by omega) ?_ | refine gi_mul ?_ | refine go_nx rfl ?_)
      refine go_step ?_
      refine g_callV (by decide) (by decide) (Nat.le_of_ble_eq_true rfl) (Nat.le_of_ble_eq_true rfl) (aL_rcv p3) (by omega) (Nat.le_of_ble_eq_true rfl) rfl ?_
      refine sp_size p3 ?_
      rw [hlenN]
      first | refine gb_lt (by omega) (by omega) (fun c => ?_) (fun c => ?_) | refine gb_ge (by omega) (by omega) (fun c => ?_) (fun c => ?_) | refine gb_gt (by omega) (by omega) (fun c => ?_) (fun c => ?_) | refine gb_le (by omega) (by omega) (fun c => ?_) (fun c => ?_) | refine gb_eq (by omega) (by omega) (fun c => ?_) (fun c => ?_) | refine gb_ne (by omega) (by omega) (fun c => ?_) (fun c => ?_)
      rotate_left
      · omega
      repeat (first | refine gi_con ?_ | refine gi_bip (Nat.le_of_ble_eq_true rfl) ?_ | refine gi_sip (Nat.le_of_ble_eq_true rfl) ?_ | refine gi_ldc ?_ | refine gi_add ?_ | refine gi_inc rfl ?_ | refine gi_sub (by omega) ?_ | refine gi_mul ?_ | refine go_nx rfl ?_)
      refine go_jp rfl ?_
      rw [hi, List.take_length] at s4
      exact loop2 h1 ed1 cap1 S s1 s2 (by omega) (fun y hy => (s4 y).mp hy) (fun y hy => (s4 y).mpr hy) s6 (by omega) (by omega) s10 S.length 0 h1 (fun _ => 0) mm_un (by omega) (nBox_sub p1 hnb) (fun j hj => by omega) s5 (hFr_r _ _) rfl rfl (fun _ _ => rfl)
    | succ m ih =>
      intro i h1 ed1 cap1 S x3 hm s1 s2 s3 s4 s5 s6 s7 s8 s9 s10 s11
      obtain ⟨p1, p2, p3⟩ := keep s6
      have hiP : i < Ps.length := by omega
      have hxP : Ps.getD i 0 ∈ Ps := getD_mem hiP
      have hSP : ∀ y ∈ S, y ∈ Ps := fun y hy => List.mem_of_mem_take ((s4 y).mp hy)
      have cells := nBox_cell (nBox_sub p1 hnb)
      rw [hPs] at cells
      obtain ⟨fi, nx, hcx⟩ := cells _ hxP
      repeat (first | refine gi_con ?_ | refine gi_bip (Nat.le_of_ble_eq_true rfl) ?_ | refine gi_sip (Nat.le_of_ble_eq_true rfl) ?_ | refine gi_ldc ?_ | refine gi_add ?_ | refine gi_inc rfl ?_ | refine gi_sub (by omega) ?_ | refine gi_mul ?_ | refine go_nx rfl ?_)
      refine go_step ?_
      refine g_callV (by decide) (by decide) (Nat.le_of_ble_eq_true rfl) (Nat.le_of_ble_eq_true rfl) (aL_rcv p3) (by omega) (Nat.le_of_ble_eq_true rfl) rfl ?_
      refine sp_size p3 ?_
      rw [hlenN]
      first | refine gb_lt (by omega) (by omega) (fun c => ?_) (fun c => ?_) | refine gb_ge (by omega) (by omega) (fun c => ?_) (fun c => ?_) | refine gb_gt (by omega) (by omega) (fun c => ?_) (fun c => ?_) | refine gb_le (by omega) (by omega) (fun c => ?_) (fun c => ?_) | refine gb_eq (by omega) (by omega) (fun c => ?_) (fun c => ?_) | refine gb_ne (by omega) (by omega) (fun c => ?_) (fun c => ?_)
      · omega
      repeat (first | refine gi_con ?_ | refine gi_bip (Nat.le_of_ble_eq_true rfl) ?_ | refine gi_sip (Nat.le_of_ble_eq_true rfl) ?_ | refine gi_ldc ?_ | refine gi_add ?_ | refine gi_inc rfl ?_ | refine gi_sub (by omega) ?_ | refine gi_mul ?_ | refine go_nx rfl ?_)
      refine go_step ?_
      refine g_callV (by decide) (by decide) (Nat.le_of_ble_eq_true rfl) (Nat.le_of_ble_eq_true rfl) (aL_rcv p3) (by omega) (Nat.le_of_ble_eq_true rfl) rfl ?_
      refine sp_get (by omega) p3 (by omega) ?_
      rw [map_getD hiP]
      refine gc_cast0 hcx rfl rfl ?_
      repeat (first | refine gi_con ?_ | refine gi_bip (Nat.le_of_ble_eq_true rfl) ?_ | refine gi_sip (Nat.le_of_ble_eq_true rfl) ?_ | refine gi_ldc ?_ | refine gi_add ?_ | refine gi_inc rfl ?_ | refine gi_sub (by omega) ?_ | refine gi_mul ?_ | refine go_nx rfl ?_)
      refine go_step ?_
      refine g_call (k := 70) rfl (by omega) (Nat.le_of_ble_eq_true rfl) rfl ?_
      refine sp_cng (f := f) T (by omega) s1 s2 (fun y hy => by obtain ⟨fi2, nx2, hc2⟩ := cells _ (hSP y hy); exact ⟨_, hc2⟩) (fun y hy Q' hq' => hcmp h1 _ (d - 1 - 1) y _ Q' (by omega) p2 (nBox_sub p1 hnb) (hSP y hy) hxP hq') (fun cc hcc hc1 hc2 => ?_)
      repeat (first | refine gi_con ?_ | refine gi_bip (Nat.le_of_ble_eq_true rfl) ?_ | refine gi_sip (Nat.le_of_ble_eq_true rfl) ?_ | refine gi_ldc ?_ | refine gi_add ?_ | refine gi_inc rfl ?_ | refine gi_sub (by omega) ?_ | refine gi_mul ?_ | refine go_nx rfl ?_)
      refine go_step ?_
      refine g_callV (by decide) (by decide) (Nat.le_of_ble_eq_true rfl) (Nat.le_of_ble_eq_true rfl) (aL_rcv s1) (by omega) (Nat.le_of_ble_eq_true rfl) rfl ?_
      refine sp_addAt (by omega) hE s5 s1 hcx (by decide) (by omega) (by rw [List.length_map]; omega) (fun h2 ed2 cap2 hn => ?_)
      obtain ⟨n1, n2, n3, n4, n5, n6, n7, n8, n9⟩ := hn
      have hmapat : l_at (S.map N) cc (N (Ps.getD i 0)) = (l_at S cc (Ps.getD i 0)).map N := by
        unfold l_at
        rw [List.map_append, List.map_cons, List.map_take, List.map_drop]
      rw [hmapat] at n1 n8
      rw [List.length_map, l_at_len hcc] at n8
      repeat (first | refine gi_con ?_ | refine gi_bip (Nat.le_of_ble_eq_true rfl) ?_ | refine gi_sip (Nat.le_of_ble_eq_true rfl) ?_ | refine gi_ldc ?_ | refine gi_add ?_ | refine gi_inc rfl ?_ | refine gi_sub (by omega) ?_ | refine gi_mul ?_ | refine go_nx rfl ?_)
      refine go_jp rfl ?_
      have hh1 : h.1 ≤ h1.1 := s6.1
      refine ih (i + 1) h2 ed2 cap2 (l_at S cc (Ps.getD i 0)) _ (by omega) n1 (srt_at T s2 hcc hc1 hc2) (by rw [l_at_len hcc, s3]) (fun y => ?_) n2 ?_ (by omega) (by omega) (by omega) (by omega) ?_
      · rw [l_at_mem, take_succ_mem hiP, s4 y]
      · refine ⟨Nat.le_trans hh1 n3.1, fun b hb _ => ?_⟩
        by_cases hbe : b = ed1
        · rcases s11 with s11 | s11
          · rw [n2.2.1 b (by omega), hk.2.1 b (by omega)]
          · omega
        · rw [n3.2 b (by omega) (fun q => q.elim (fun q => by omega) hbe), s6.2 b hb id]
      · rcases n4 with n4 | n4
        · rw [n4]
          exact s11
        · exact Or.inr (by omega)
  repeat (first | refine gi_con ?_ | refine gi_bip (Nat.le_of_ble_eq_true rfl) ?_ | refine gi_sip (Nat.le_of_ble_eq_true rfl) ?_ | refine gi_ldc ?_ | refine gi_add ?_ | refine gi_inc rfl ?_ | refine gi_sub (by omega) ?_ | refine gi_mul ?_ | refine go_nx rfl ?_)
  refine go_jp rfl ?_
  exact loop1 Ps.length 0 _ ed0 0 [] mm_un (by omega) ha0 (fun i j _ hj => absurd hj (Nat.not_lt_zero _)) rfl (fun y => by simp) k1 ⟨Nat.le_succ _, fun b hb _ => hn_ne (by omega)⟩ (Nat.le_refl _) (Nat.le_refl _) (by omega) (Nat.le_add_right _ _) (Or.inl hedE)
end C
