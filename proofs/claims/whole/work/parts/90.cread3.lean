/-! THE CLASS: readPart -/
theorem q_z_ge (B : Nat → Nat) : ∀ f k, k ≤ q_z B f k := by
  intro f
  induction f with
  | zero => intro k; exact Nat.le_refl _
  | succ f ih =>
    intro k
    unfold q_z
    split
    · exact Nat.le_refl _
    · have := ih (k + 1)
      omega
theorem q_val_ge (B : Nat → Nat) (p : Nat) : p + 2 ≤ q_val B p := by
  unfold q_val q_ne
  have := q_z_ge B 2002 (p + 1)
  omega
section W
variable {u : Nat → Bool} {B N N' ord : Nat → Nat} {h h' : mmH} {row : Nat}
theorem q_els_at {k last : Nat} {rw_ : Bool} : ∀ (f p i : Nat), q_at u k B rw_ last p i → ∀ x ∈ q_els B last f p, x < last ∧ p ≤ x ∧ ∃ j, q_at u k B rw_ last x j := by
  intro f
  induction f with
  | zero => intro p i h x hx; cases hx
  | succ f ih =>
    intro p i h x hx
    rw [q_els_s] at hx
    split at hx
    · rename_i hp
      rcases List.mem_cons.mp hx with hx | hx
      · rw [hx]
        exact ⟨hp, Nat.le_refl _, i, h⟩
      · have he := q_at_el h hp
        obtain ⟨a1, a2, a3⟩ := ih _ _ he.2.2.2.2 x hx
        have := q_val_ge B p
        have : p ≤ q_next B p := by unfold q_next; omega
        exact ⟨a1, by omega, a3⟩
    · cases hx
theorem q_pre_in : ∀ {k v stop : Nat} {rw_ : Bool}, q_box u B k v stop rw_ = true → ∀ x ∈ q_pre B k v, v + 4 ≤ x ∧ x < q_last B v := by
  intro k
  induction k with
  | zero => intro v stop rw_ h; cases h
  | succ k ih =>
    intro v stop rw_ h x hx
    obtain ⟨g1, g2, g3, g4⟩ := q_box_at h
    rw [q_pre_s] at hx
    obtain ⟨y, hy, hx⟩ := List.mem_flatMap.mp hx
    obtain ⟨y1, y2, j, y3⟩ := q_els_at _ _ _ g4 y hy
    rcases List.mem_cons.mp hx with hx | hx
    · rw [hx]
      exact ⟨y2, y1⟩
    · have he := q_at_el y3 y1
      have hb := q_at_box he.2.1
      have hne := q_val_ge B y
      split at hx
      · rename_i h34
        rcases h34 with h3 | h4
        · have hbx := hb.1 h3
          have := ih hbx x hx
          have hle := q_box_le hbx
          unfold q_last at this ⊢
          unfold q_last at hle
          omega
        · have hbx := hb.2 h4
          have := ih hbx x hx
          have hle := q_box_le hbx
          unfold q_last at this ⊢
          unfold q_last at hle
          omega
      · cases hx
theorem nBox_nd : ∀ {k v : Nat}, nBox h row B N ord k v → ∀ y ∈ q_pre B k v, ∃ c, h.2.2 (N y) = some (.inr (4, c)) := by
  intro k
  induction k with
  | zero => intro v _ y hy; cases hy
  | succ k ih =>
    intro v hb y hy
    rw [q_pre_s] at hy
    rw [nBox_s] at hb
    obtain ⟨x, hx, hy⟩ := List.mem_flatMap.mp hy
    obtain ⟨c1, c2⟩ := hb x hx
    rcases List.mem_cons.mp hy with hy | hy
    · rw [hy]
      exact ⟨_, c1⟩
    · split at hy
      · rename_i h34
        exact ih (c2 h34) y hy
      · cases hy
theorem nFull_N {lim x b : Nat} (hN : ∀ q, q < b → N' q = N q) (h1 : lim ≤ b) (h2 : (B x = 3 ∨ B x = 4) → q_val B x + 4 < q_last B (q_val B x) → q_val B x + 4 < b) : nFull row B N' ord lim x = nFull row B N ord lim x := by
  unfold nFull
  have e1 : q_fi B N' x = q_fi B N x := by
    unfold q_fi
    split
    · rename_i hc
      rw [hN _ (h2 hc.1 hc.2)]
    · rfl
  have e2 : q_nx B N' lim x = q_nx B N lim x := by
    unfold q_nx
    split
    · rw [hN _ (by omega)]
    · rfl
  rw [e1, e2]
theorem nBox_fr {b : Nat} (hN : ∀ q, q < b → N' q = N q) : ∀ {k v stop : Nat} {rw_ : Bool}, q_box u B k v stop rw_ = true → q_last B v ≤ b → (∀ y ∈ q_pre B k v, h'.2.2 (N y) = h.2.2 (N y)) → nBox h row B N ord k v → nBox h' row B N' ord k v := by
  intro k
  induction k with
  | zero => intro v stop rw_ h; cases h
  | succ k ih =>
    intro v stop rw_ hbx hb hh hn
    obtain ⟨g1, g2, g3, g4⟩ := q_box_at hbx
    rw [nBox_s] at hn ⊢
    rw [q_pre_s] at hh
    intro x hx
    obtain ⟨c1, c2⟩ := hn x hx
    obtain ⟨y1, y2, j, y3⟩ := q_els_at _ _ _ g4 x hx
    have he := q_at_el y3 y1
    have hbb := q_at_box he.2.1
    refine ⟨?_, fun h34 => ?_⟩
    · rw [hN x (by omega), hh x (List.mem_flatMap.mpr ⟨x, hx, List.mem_cons_self⟩), c1]
      congr 1
      refine (nFull_N hN hb (fun h34 hlt => ?_)).symm
      have hle : q_val B x + q_sz B (q_val B x) ≤ q_last B v := by
        rcases h34 with h3 | h4
        · exact (q_box_le (hbb.1 h3)).1
        · exact (q_box_le (hbb.2 h4)).1
      unfold q_last at hlt
      omega
    · have hsub : ∀ y ∈ q_pre B k (q_val B x), h'.2.2 (N y) = h.2.2 (N y) := fun y hy => hh y (List.mem_flatMap.mpr ⟨x, hx, List.mem_cons_of_mem _ (by rw [if_pos h34]; exact hy)⟩)
      rcases h34 with h3 | h4
      · have hle := q_box_le (hbb.1 h3)
        exact ih (hbb.1 h3) (by unfold q_last; unfold q_last at hle hb; omega) hsub (c2 (Or.inl h3))
      · have hle := q_box_le (hbb.2 h4)
        exact ih (hbb.2 h4) (by unfold q_last; unfold q_last at hle hb; omega) hsub (c2 (Or.inr h4))
end W
section C0
variable {E : mmE} {h : mmH} {a ed N : Nat} {l : List Nat}
theorem aL_ed (hE : sE E) (hk : hOk E h) (ha : aL E h a ed N l) : ed < h.1 := by
  rcases ha.2.1 with ⟨-, -, e3⟩ | ⟨-, -, f, e3, -⟩
  · obtain ⟨⟨t, f, e1, e2, e4⟩, -⟩ := hE
    have e5 : ed = t := by
      rw [e3] at e1
      exact Value.ref.inj e1
    have e6 := hk.1
    rw [e5]
    exact Nat.lt_of_lt_of_le e4 e6
  · exact hOk_lt hk e3
theorem aL_edn {b : Nat} {c : mmC} (hE : sE E) (hk : hOk E h) (ha : aL E h a ed N l) (hb : h.2.2 b = some c) (hc : ∀ n f, c ≠ aCell 3 n f) : b ≠ ed := by
  intro q
  subst q
  rcases ha.2.1 with ⟨-, -, e3⟩ | ⟨-, -, f, e3, -⟩
  · obtain ⟨⟨t, f, e1, e2, e4⟩, -⟩ := hE
    have e5 : b = t := by
      rw [e3] at e1
      exact Value.ref.inj e1
    rw [hk.2.1 b (by rw [e5]; exact e4)] at hb
    cases hb
  · rw [e3] at hb
    exact hc _ _ (Option.some.inj hb).symm
end C0
section C
variable {E : mmE} {d : Nat} {h : mmH} {Q : Option Value → mmH → Prop} {r la ed cap row n : Nat} {Ls : List Nat} {B N : Nat → Nat}
def rdV (r la ed : Nat) : Nat → Prop := fun b => b = r ∨ b = la ∨ b = ed
theorem sp_rpart {p last k : Nat} (hd : 8 ≤ d) (hE : sE E) (hSt : sStr E) (hr : rdOk E h r la ed cap Ls row n B p) (hrow : q_row B n) (hp : p < last) (hl : last ≤ n) (hk : k ≤ 16) (hIH : RPs E (d - 2) row n B k)
    (hN : last ≤ q_ne B p → Q (some .null) h)
    (hS : ∀ h' N' ed' cap', q_ne B p < last → q_vok (q_box qtt B k) B p last = true → (∀ q, q < p → N' q = N q) → N' p = h.1 → (B p = 3 ∨ B p = 4 → nBox h' row B N' (fun _ => 0) k (q_val B p)) → rdNew h h' N' (p :: q_sub2 B k p) → rdOk E h' r la ed' cap' (Ls ++ (p :: q_sub2 B k p).map N') row n B (q_next B p) → h'.2.2 h.1 = some (nCell row B p (q_tf B p) (q_tt B p) (q_nu B p) (q_fi B N' p) .null 0) → hFr h h' (rdV r la ed) → rdRm h h' cap cap' p (q_next B p) → (ed' = ed ∨ h.1 ≤ ed') → Q (some (.ref h.1)) h')
    (hF : ∀ h' A' cap' tf tt num fi, q_ne B p < last → q_vok (q_box qtt B k) B p last = false → h'.2.2 r = some (rdC la row A' true) → A' ≤ last → hOk E h' → hFr h h' (rdV r la ed) → rdRm h h' cap cap' p A' → cap' ≤ A' + 10 → h'.2.2 h.1 = some (nCell row B p tf tt num fi .null 0) → Q (some (.ref h.1)) h') : mm_Go E d 39 (mm_blk 39 0) [.ref r, .int (nI last), .int (nI (17 - (k + 1))), mm_un, mm_un] [] h Q := by
  have hr0 := hr
  obtain ⟨h1, h2, h3, h4, h5, h6⟩ := hr
  have hn := h4.1
  have hnp := q_ne_is hrow (show p ≤ 2000 by omega)
  have h1' : h.2.2 r = some (.inr (2, [.ref la, .ref row, .int (nI p), .int (q_t false)])) := h1
  have hrl := hOk_lt h3 h1'
  obtain ⟨mc, hla⟩ := h2.1
  have hll := hOk_lt h3 hla
  have hlr : la ≠ r := fun q => by rw [q, h1'] at hla; cases hla
  have two : ∀ e, (last ≤ e ∧ last ≤ q_ne B p ∨ e = q_ne B p) → e ≤ last → mm_Go E d 39 (mm_blk 39 2) [.ref r, .int (nI last), .int (nI (17 - (k + 1))), .int (nI e), mm_un] [] h Q := by
    intro e he hel
    repeat (first | refine gi_con ?_ | refine gi_bip (Nat.le_of_ble_eq_true rfl) ?_ | refine gi_sip (Nat.le_of_ble_eq_true rfl) ?_ | refine gi_ldc ?_ | refine gi_add ?_ | refine gi_inc rfl ?_ | refine gi_sub (by omega) ?_ | refine gi_mul ?_ | refine go_nx rfl ?_)
    first | refine gb_lt (by omega) (by omega) (fun c1' => ?_) (fun c1' => ?_) | refine gb_ge (by omega) (by omega) (fun c1' => ?_) (fun c1' => ?_) | refine gb_gt (by omega) (by omega) (fun c1' => ?_) (fun c1' => ?_) | refine gb_le (by omega) (by omega) (fun c1' => ?_) (fun c1' => ?_) | refine gb_eq (by omega) (by omega) (fun c1' => ?_) (fun c1' => ?_) | refine gb_ne (by omega) (by omega) (fun c1' => ?_) (fun c1' => ?_)
    · have hee : e = q_ne B p := he.resolve_left (by omega)
      subst hee
      have hBp := h4.2.2.1 p
      repeat (first | refine gi_con ?_ | refine gi_bip (Nat.le_of_ble_eq_true rfl) ?_ | refine gi_sip (Nat.le_of_ble_eq_true rfl) ?_ | refine gi_ldc ?_ | refine gi_add ?_ | refine gi_inc rfl ?_ | refine gi_sub (by omega) ?_ | refine gi_mul ?_ | refine go_nx rfl ?_)
      generalize hg0 : mm_new h (mm_defs (mm_k0 _)).length (.inr (mm_k0 _, mm_defs (mm_k0 _))) = g0
      have hg0' : g0 = mm_new h 12 (.inr (4, [.null, .int 0, .int 0, .int 0, .int 0, .int 0, .int 0, .int 0, .long 0, .null, .null, .int 0])) := hg0.symm
      subst hg0'
      clear hg0
      have k0 := hOk_new (E := E) (n := 12) (c := .inr (4, [.null, .int 0, .int 0, .int 0, .int 0, .int 0, .int 0, .int 0, .long 0, .null, .null, .int 0])) h3
      have kr : (mm_new h 12 (.inr (4, [.null, .int 0, .int 0, .int 0, .int 0, .int 0, .int 0, .int 0, .long 0, .null, .null, .int 0]))).2.2 r = some (.inr (2, [.ref la, .ref row, .int (nI p), .int (q_t false)])) := by rw [hn_ne (by omega)]; exact h1'
      have krow : ∀ c, bRow (mm_new h 12 c) row n B := fun c => by
        obtain ⟨r1, ⟨f, r2, r3⟩, r4⟩ := h4
        exact ⟨r1, ⟨f, by rw [hn_ne (by have := hOk_lt h3 r2; omega)]; exact r2, r3⟩, r4⟩
      refine gf_get _ kr (by decide) rfl ?_
      repeat (first | refine gi_con ?_ | refine gi_bip (Nat.le_of_ble_eq_true rfl) ?_ | refine gi_sip (Nat.le_of_ble_eq_true rfl) ?_ | refine gi_ldc ?_ | refine gi_add ?_ | refine gi_inc rfl ?_ | refine gi_sub (by omega) ?_ | refine gi_mul ?_ | refine go_nx rfl ?_)
      refine gf_get _ kr (by decide) rfl ?_
      repeat (first | refine gi_con ?_ | refine gi_bip (Nat.le_of_ble_eq_true rfl) ?_ | refine gi_sip (Nat.le_of_ble_eq_true rfl) ?_ | refine gi_ldc ?_ | refine gi_add ?_ | refine gi_inc rfl ?_ | refine gi_sub (by omega) ?_ | refine gi_mul ?_ | refine go_nx rfl ?_)
      refine gf_get _ kr (by decide) rfl ?_
      repeat (first | refine gi_con ?_ | refine gi_bip (Nat.le_of_ble_eq_true rfl) ?_ | refine gi_sip (Nat.le_of_ble_eq_true rfl) ?_ | refine gi_ldc ?_ | refine gi_add ?_ | refine gi_inc rfl ?_ | refine gi_sub (by omega) ?_ | refine gi_mul ?_ | refine go_nx rfl ?_)
      refine go_step ?_
      refine g_call (k := 11) rfl (by omega) (Nat.le_of_ble_eq_true rfl) rfl ?_
      refine sp_atN (krow _) (by omega) ?_
      repeat (first | refine gi_con ?_ | refine gi_bip (Nat.le_of_ble_eq_true rfl) ?_ | refine gi_sip (Nat.le_of_ble_eq_true rfl) ?_ | refine gi_ldc ?_ | refine gi_add ?_ | refine gi_inc rfl ?_ | refine gi_sub (by omega) ?_ | refine gi_mul ?_ | refine go_nx rfl ?_)
      refine gf_get _ kr (by decide) rfl ?_
      repeat (first | refine gi_con ?_ | refine gi_bip (Nat.le_of_ble_eq_true rfl) ?_ | refine gi_sip (Nat.le_of_ble_eq_true rfl) ?_ | refine gi_ldc ?_ | refine gi_add ?_ | refine gi_inc rfl ?_ | refine gi_sub (by omega) ?_ | refine gi_mul ?_ | refine go_nx rfl ?_)
      refine go_step ?_
      refine g_call (k := 26) rfl (by omega) (Nat.le_of_ble_eq_true rfl) rfl ?_
      refine sp_ninit (by omega) hSt k0 (krow _) (by omega) (by omega) hn_at ?_
      rw [hn_set]
      have k1 := hOk_new (E := E) (n := 12) (c := nCell row B p 0 0 0 .null .null 0) h3
      have kr1 : (mm_new h 12 (nCell row B p 0 0 0 .null .null 0)).2.2 r = some (.inr (2, [.ref la, .ref row, .int (nI p), .int (q_t false)])) := by rw [hn_ne (by omega)]; exact h1'
      have kl1 : aL E (mm_new h 12 (nCell row B p 0 0 0 .null .null 0)) la ed cap Ls := aL_fr h2 (hn_ne (by omega)) (fun ⟨x, hx⟩ => hn_ne (by have := hOk_lt h3 hx; omega))
      have ka1 : (mm_new h 12 (nCell row B p 0 0 0 .null .null 0)).2.2 h.1 = some (.inr (4, [.ref row, .int (nI (B p)), .int (nI p), .int (nI (q_ne B p)), .int (nI (q_word B p)), .int (nI (q_cls (B p))), .int 0, .int 0, .long 0, .null, .null, .int 0])) := hn_at
      repeat (first | refine gi_con ?_ | refine gi_bip (Nat.le_of_ble_eq_true rfl) ?_ | refine gi_sip (Nat.le_of_ble_eq_true rfl) ?_ | refine gi_ldc ?_ | refine gi_add ?_ | refine gi_inc rfl ?_ | refine gi_sub (by omega) ?_ | refine gi_mul ?_ | refine go_nx rfl ?_)
      refine gf_get _ kr1 (by decide) rfl ?_
      repeat (first | refine gi_con ?_ | refine gi_bip (Nat.le_of_ble_eq_true rfl) ?_ | refine gi_sip (Nat.le_of_ble_eq_true rfl) ?_ | refine gi_ldc ?_ | refine gi_add ?_ | refine gi_inc rfl ?_ | refine gi_sub (by omega) ?_ | refine gi_mul ?_ | refine go_nx rfl ?_)
      refine go_step ?_
      refine g_callV (by decide) (by decide) (Nat.le_of_ble_eq_true rfl) (Nat.le_of_ble_eq_true rfl) (aL_rcv kl1) (by omega) (Nat.le_of_ble_eq_true rfl) rfl ?_
      refine sp_add (by omega) hE k1 kl1 ka1 (by decide) (by omega) (fun h2' ed2 cap2 hnx => ?_)
      obtain ⟨n1, n2, n3, n4, n5, n6, n7, n8, n9⟩ := hnx
      have hed1 : ed ≠ h.1 := Nat.ne_of_lt (aL_ed hE h3 h2)
      have hrne : ∀ b c, h.2.2 b = some (.inr c) → c.1 ≠ 3 → b < h.1 → h2'.2.2 b = h.2.2 b := by
        intro b c hb hc3 hbl
        rw [n3.2 b (Nat.lt_succ_of_lt hbl) (fun q => ?_), hn_ne (by omega)]
        rcases q with q | q
        · rw [q, hla] at hb
          cases hb
          exact hc3 rfl
        · exact aL_edn hE h3 h2 hb (fun _ _ z => by cases z) q
      have kr2 : h2'.2.2 r = some (.inr (2, [.ref la, .ref row, .int (nI p), .int (q_t false)])) := by rw [hrne r _ h1' (show (2 : Nat) ≠ 3 by decide) hrl]; exact h1'
      have ka2 : h2'.2.2 h.1 = some (nCell row B p 0 0 0 .null .null 0) := by
        rw [n3.2 h.1 (Nat.lt_succ_self _) (fun q => q.elim (fun q => by omega) (fun q => hed1 q.symm))]
        exact ka1
      have krow2 : bRow h2' row n B := by
        obtain ⟨r1, ⟨f, r2, r3⟩, r4⟩ := h4
        refine ⟨r1, ⟨f, ?_, r3⟩, r4⟩
        have hrl2 := hOk_lt h3 r2
        rw [n3.2 row (Nat.lt_succ_of_lt hrl2) (fun q => ?_), hn_ne (by omega)]
        · exact r2
        · rcases q with q | q
          · rw [q, hla] at r2
            cases r2
          · exact aL_edn hE h3 h2 r2 (fun _ _ z => by cases z) q
      have hv2 : p + 2 ≤ q_val B p := by unfold q_val; omega
      have hvl : q_val B p ≤ last := by unfold q_val; omega
      repeat (first | refine gi_con ?_ | refine gi_bip (Nat.le_of_ble_eq_true rfl) ?_ | refine gi_sip (Nat.le_of_ble_eq_true rfl) ?_ | refine gi_ldc ?_ | refine gi_add ?_ | refine gi_inc rfl ?_ | refine gi_sub (by omega) ?_ | refine gi_mul ?_ | refine go_nx rfl ?_)
      refine gc_put (fs' := [.ref la, .ref row, .int (nI (q_val B p)), .int (q_t false)]) kr2 rfl (Nat.le_of_ble_eq_true rfl) rfl rfl ?_
      have hlen2 : (Ls ++ [h.1]).length = Ls.length + 1 := by rw [List.length_append]; rfl
      have kOk3 : rdOk E (mm_set h2' r (rdC la row (q_val B p) false)) r la ed2 cap2 (Ls ++ [h.1]) row n B (q_val B p) := by
        refine ⟨hs_at, aL_fr n1 (hs_ne hlr) (fun ⟨x, hx⟩ => hs_ne (fun q => by rw [q, kr2] at hx; cases hx)), hOk_set2 n2 kr2, bRow_set krow2 kr2, by rw [hlen2]; omega, ?_⟩
        rw [hlen2] at n8
        rcases n8 with n8 | n8 <;> omega
      have ka3 : (mm_set h2' r (rdC la row (q_val B p) false)).2.2 h.1 = some (nCell row B p 0 0 0 .null .null 0) := by rw [hs_ne (by omega)]; exact ka2
      have kr3 : (mm_set h2' r (rdC la row (q_val B p) false)).2.2 r = some (.inr (2, [.ref la, .ref row, .int (nI (q_val B p)), .int (q_t false)])) := hs_at
      have hfr3 : hFr h (mm_set h2' r (rdC la row (q_val B p) false)) (rdV r la ed) := hFr_set2 (hFr_t hFr_new (hFr_m n3 (fun b _ q => q.elim (fun q => Or.inr (Or.inl q)) (fun q => Or.inr (Or.inr q))))) (Or.inl (Or.inl rfl))
      have hrm3 : rdRm h (mm_set h2' r (rdC la row (q_val B p) false)) cap cap2 p (q_val B p) := by
        have m1 : h2'.1 ≤ h.1 + 1 + 1 := n5
        have m2 : h2'.2.1 + 4 * cap ≤ h.2.1 + 12 + 4 * cap2 := n6
        have m3 : h.2.1 + 12 ≤ h2'.2.1 := n9
        exact ⟨by show h2'.1 + p ≤ h.1 + q_val B p; omega, by show h2'.2.1 + 4 * cap + 6 * p ≤ h.2.1 + 6 * q_val B p + 4 * cap2; omega, by omega, by show h.2.1 ≤ h2'.2.1; omega⟩
      have hlt3 : h.1 + 1 ≤ h2'.1 := n3.1
      have hed2 : ed2 = ed ∨ h.1 ≤ ed2 := n4.imp_right (fun q => by have q : h.1 + 1 ≤ ed2 := q; omega)
      have hfr4 : ∀ {h' : mmH}, hFr (mm_set h2' r (rdC la row (q_val B p) false)) h' (rdW r la ed2 h.1) → hFr h h' (rdV r la ed) := by
        intro h' hf
        refine ⟨Nat.le_trans hfr3.1 hf.1, fun b hb hw => ?_⟩
        rw [hf.2 b (Nat.lt_of_lt_of_le hb hfr3.1) (fun q => ?_)]
        · exact hfr3.2 b hb hw
        · rcases q with q | q | q | q
          · exact hw (Or.inl q)
          · exact hw (Or.inr (Or.inl q))
          · rcases hed2 with e | e
            · exact hw (Or.inr (Or.inr (by rw [q, e])))
            · omega
          · omega
      repeat (first | refine gi_con ?_ | refine gi_bip (Nat.le_of_ble_eq_true rfl) ?_ | refine gi_sip (Nat.le_of_ble_eq_true rfl) ?_ | refine gi_ldc ?_ | refine gi_add ?_ | refine gi_inc rfl ?_ | refine gi_sub (by omega) ?_ | refine gi_mul ?_ | refine go_nx rfl ?_)
      refine go_step ?_
      refine g_callV (by decide) (by decide) (Nat.le_of_ble_eq_true rfl) (Nat.le_of_ble_eq_true rfl) (o_rcv kr3 rfl (by decide)) (by omega) (Nat.le_of_ble_eq_true rfl) rfl ?_
      refine sp_rcontent (N := uf N p h.1) (by omega) kOk3 ka3 hvl hl hk (by rw [show d - 1 - 1 = d - 2 by omega]; exact hIH) (fun h' N' ed' cap' hv c1 c2 c3 c4 c5 c6 c7 c8 => ?_) (fun h' A' cap' tf tt num fi hv c1 c2 c3 c4 c5 c6 c7 => ?_)
      · have hNp : N' p = h.1 := by rw [c1 p (by omega), uf_at]
        repeat (first | refine gi_con ?_ | refine gi_bip (Nat.le_of_ble_eq_true rfl) ?_ | refine gi_sip (Nat.le_of_ble_eq_true rfl) ?_ | refine gi_ldc ?_ | refine gi_add ?_ | refine gi_inc rfl ?_ | refine gi_sub (by omega) ?_ | refine gi_mul ?_ | refine go_nx rfl ?_)
        refine go_rt rfl ?_
        refine hS h' N' ed' cap' c1' hv (fun q hq => by rw [c1 q (by omega), uf_ne (by omega)]) hNp c2 ?_ ?_ c5 (hfr4 c6) (rdRm_t hrm3 c7) ?_
        · have hm : h2'.1 ≤ h'.1 := c6.1
          have c31 : ∀ x ∈ q_sub2 B k p, h2'.1 ≤ N' x ∧ N' x < h'.1 := c3.1
          refine ⟨fun x hx => ?_, fun x hx y hy hxy => ?_⟩
          · rcases List.mem_cons.mp hx with hx | hx
            · rw [hx, hNp]
              exact ⟨Nat.le_refl _, by omega⟩
            · have := c31 x hx
              exact ⟨by omega, this.2⟩
          · rcases List.mem_cons.mp hx with hx | hx
            · rcases List.mem_cons.mp hy with hy | hy
              · rw [hx, hy]
              · have := c31 y hy
                rw [hx, hNp] at hxy
                omega
            · rcases List.mem_cons.mp hy with hy | hy
              · have := c31 x hx
                rw [hy, hNp] at hxy
                omega
              · exact c3.2 x hx y hy hxy
        · rw [List.map_cons, hNp]
          rw [List.append_assoc] at c4
          exact c4
        · rcases c8 with c8 | c8
          · rw [c8]; exact hed2
          · have c8 : h2'.1 ≤ ed' := c8
            exact Or.inr (by omega)
      · repeat (first | refine gi_con ?_ | refine gi_bip (Nat.le_of_ble_eq_true rfl) ?_ | refine gi_sip (Nat.le_of_ble_eq_true rfl) ?_ | refine gi_ldc ?_ | refine gi_add ?_ | refine gi_inc rfl ?_ | refine gi_sub (by omega) ?_ | refine gi_mul ?_ | refine go_nx rfl ?_)
        refine go_rt rfl ?_
        exact hF h' A' cap' tf tt num fi c1' hv c1 c2 c3 (hfr4 c4) (rdRm_t hrm3 c5) c6 c7
    · repeat (first | refine gi_con ?_ | refine gi_bip (Nat.le_of_ble_eq_true rfl) ?_ | refine gi_sip (Nat.le_of_ble_eq_true rfl) ?_ | refine gi_ldc ?_ | refine gi_add ?_ | refine gi_inc rfl ?_ | refine gi_sub (by omega) ?_ | refine gi_mul ?_ | refine go_nx rfl ?_)
      refine go_rt rfl ?_
      exact hN (by rcases he with he | he <;> omega)
  have scan : ∀ (g e : Nat), g + e = last → p + 1 ≤ e → e ≤ q_ne B p → mm_Go E d 39 (mm_blk 39 1) [.ref r, .int (nI last), .int (nI (17 - (k + 1))), .int (nI e), mm_un] [] h Q := by
    intro g
    induction g with
    | zero =>
      intro e hg he1 he2
      repeat (first | refine gi_con ?_ | refine gi_bip (Nat.le_of_ble_eq_true rfl) ?_ | refine gi_sip (Nat.le_of_ble_eq_true rfl) ?_ | refine gi_ldc ?_ | refine gi_add ?_ | refine gi_inc rfl ?_ | refine gi_sub (by omega) ?_ | refine gi_mul ?_ | refine go_nx rfl ?_)
      first | refine gb_lt (by omega) (by omega) (fun c1 => ?_) (fun c1 => ?_) | refine gb_ge (by omega) (by omega) (fun c1 => ?_) (fun c1 => ?_) | refine gb_gt (by omega) (by omega) (fun c1 => ?_) (fun c1 => ?_) | refine gb_le (by omega) (by omega) (fun c1 => ?_) (fun c1 => ?_) | refine gb_eq (by omega) (by omega) (fun c1 => ?_) (fun c1 => ?_) | refine gb_ne (by omega) (by omega) (fun c1 => ?_) (fun c1 => ?_)
      · exact two e (Or.inl ⟨by omega, by omega⟩) (by omega)
      · omega
    | succ g ih =>
      intro e hg he1 he2
      have hBe := h4.2.2.1 e
      repeat (first | refine gi_con ?_ | refine gi_bip (Nat.le_of_ble_eq_true rfl) ?_ | refine gi_sip (Nat.le_of_ble_eq_true rfl) ?_ | refine gi_ldc ?_ | refine gi_add ?_ | refine gi_inc rfl ?_ | refine gi_sub (by omega) ?_ | refine gi_mul ?_ | refine go_nx rfl ?_)
      first | refine gb_lt (by omega) (by omega) (fun c1 => ?_) (fun c1 => ?_) | refine gb_ge (by omega) (by omega) (fun c1 => ?_) (fun c1 => ?_) | refine gb_gt (by omega) (by omega) (fun c1 => ?_) (fun c1 => ?_) | refine gb_le (by omega) (by omega) (fun c1 => ?_) (fun c1 => ?_) | refine gb_eq (by omega) (by omega) (fun c1 => ?_) (fun c1 => ?_) | refine gb_ne (by omega) (by omega) (fun c1 => ?_) (fun c1 => ?_)
      · omega
      repeat (first | refine gi_con ?_ | refine gi_bip (Nat.le_of_ble_eq_true rfl) ?_ | refine gi_sip (Nat.le_of_ble_eq_true rfl) ?_ | refine gi_ldc ?_ | refine gi_add ?_ | refine gi_inc rfl ?_ | refine gi_sub (by omega) ?_ | refine gi_mul ?_ | refine go_nx rfl ?_)
      refine gf_get _ h1' (by decide) rfl ?_
      repeat (first | refine gi_con ?_ | refine gi_bip (Nat.le_of_ble_eq_true rfl) ?_ | refine gi_sip (Nat.le_of_ble_eq_true rfl) ?_ | refine gi_ldc ?_ | refine gi_add ?_ | refine gi_inc rfl ?_ | refine gi_sub (by omega) ?_ | refine gi_mul ?_ | refine go_nx rfl ?_)
      refine go_step ?_
      refine g_call (k := 11) rfl (by omega) (Nat.le_of_ble_eq_true rfl) rfl ?_
      refine sp_atN h4 (by omega) ?_
      first | refine gz_eq (by omega) (fun c2 => ?_) (fun c2 => ?_) | refine gz_ne (by omega) (fun c2 => ?_) (fun c2 => ?_) | refine gz_le (by omega) (fun c2 => ?_) (fun c2 => ?_) | refine gz_gt (by omega) (fun c2 => ?_) (fun c2 => ?_) | refine gz_lt (by omega) (fun c2 => ?_) (fun c2 => ?_) | refine gz_ge (by omega) (fun c2 => ?_) (fun c2 => ?_)
      · refine two e (Or.inr ?_) (by omega)
        by_cases hlt : e < q_ne B p
        · exact absurd c2 (hnp.2.2 e he1 hlt)
        · omega
      · repeat (first | refine gi_con ?_ | refine gi_bip (Nat.le_of_ble_eq_true rfl) ?_ | refine gi_sip (Nat.le_of_ble_eq_true rfl) ?_ | refine gi_ldc ?_ | refine gi_add ?_ | refine gi_inc rfl ?_ | refine gi_sub (by omega) ?_ | refine gi_mul ?_ | refine go_nx rfl ?_)
        refine go_jp rfl ?_
        refine ih (e + 1) (by omega) (by omega) ?_
        by_cases hlt : e < q_ne B p
        · exact hlt
        · exact absurd (show B e = 0 by rw [show e = q_ne B p by omega]; exact hnp.2.1) (by omega)
  repeat (first | refine gi_con ?_ | refine gi_bip (Nat.le_of_ble_eq_true rfl) ?_ | refine gi_sip (Nat.le_of_ble_eq_true rfl) ?_ | refine gi_ldc ?_ | refine gi_add ?_ | refine gi_inc rfl ?_ | refine gi_sub (by omega) ?_ | refine gi_mul ?_ | refine go_nx rfl ?_)
  refine gf_get _ h1' (by decide) rfl ?_
  repeat (first | refine gi_con ?_ | refine gi_bip (Nat.le_of_ble_eq_true rfl) ?_ | refine gi_sip (Nat.le_of_ble_eq_true rfl) ?_ | refine gi_ldc ?_ | refine gi_add ?_ | refine gi_inc rfl ?_ | refine gi_sub (by omega) ?_ | refine gi_mul ?_ | refine go_nx rfl ?_)
  refine go_jp rfl ?_
  exact scan (last - (p + 1)) (p + 1) (by omega) (by omega) hnp.1
end C
