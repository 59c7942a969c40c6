/-! THE CLASS: feed, pathAt, drop, takeTape -/
/-- the planner's own cell and its tape -/
def cTp (h : mmH) (x tp pa T : Nat) (pl hd : Value) (f : Nat → Int32) : Prop := h.2.2 x = some (.inr (0, [.ref tp, .ref pa, .int (nI T), pl, hd])) ∧ h.2.2 tp = some (.inl (0, 2000, .inl f))
section C
variable {E : mmE} {d : Nat} {h : mmH} {Q : Option Value → mmH → Prop} {x tp pa T : Nat} {pl hd : Value} {f : Nat → Int32}
theorem cTp_ne (hc : cTp h x tp pa T pl hd f) : x ≠ tp := fun q => by
  have h1 := hc.1
  rw [q, hc.2] at h1
  cases h1
theorem gc_bst {m pc : Nat} {is : List mmI} {L S : List Value} {ex : List Nat} {a n i : Nat} {g : Nat → Int32} {z : Int32} (ha : h.2.2 a = some (.inl (0, n, .inl g))) (hi : i < n) (hn : n < 2 ^ 31) (hg : mm_Go E d m is L S (mm_set h a (.inl (0, n, .inl (uf g i (mm_nar 0 z))))) Q) : mm_Go E d m ((pc, .bastore, ex) :: is) L (.int z :: .int (nI i) :: .ref a :: S) h Q := by
  refine go_nx (L' := L) (S' := S) (h' := mm_set h a (.inl (0, n, .inl (uf g i (mm_nar 0 z))))) ?_ hg
  show (match h.2.2 a with
    | some (.inl (t, n, .inl f)) => if (t = 0 ∨ t = 2) ∧ mm_in (nI i) n = true then mm_nx L S (mm_set h a (.inl (t, n, .inl (upd f (nI i).toNatClampNeg (mm_nar t z))))) else mm_bad
    | _ => mm_bad) = _
  rw [ha]
  dsimp only
  rw [if_pos (show (0 = 0 ∨ 0 = 2) ∧ mm_in (nI i) n = true from ⟨Or.inl rfl, decide_eq_true (vp_in_nI hi hn)⟩), nI_clamp (by omega)]
  rfl
/-- the cells of the planner and of its tape, changed -/
def cSt (h : mmH) (x tp pa T : Nat) (pl hd : Value) (f : Nat → Int32) : mmH := mm_set (mm_set h x (.inr (0, [.ref tp, .ref pa, .int (nI T), pl, hd]))) tp (.inl (0, 2000, .inl f))
theorem cSt_tp {h : mmH} (hxt : x ≠ tp) : cTp (cSt h x tp pa T pl hd f) x tp pa T pl hd f := ⟨by unfold cSt; rw [hs_ne hxt, hs_at], hs_at⟩
theorem cSt_x {h : mmH} {T' : Nat} (hxt : x ≠ tp) : mm_set (cSt h x tp pa T pl hd f) x (.inr (0, [.ref tp, .ref pa, .int (nI T'), pl, hd])) = cSt h x tp pa T' pl hd f := by
  unfold cSt mm_set
  refine Prod.ext rfl (Prod.ext rfl ?_)
  funext a
  show va_up (va_up (va_up h.2.2 x _) tp _) x _ a = va_up (va_up h.2.2 x _) tp _ a
  unfold va_up
  by_cases h1 : a = x
  · subst h1
    rw [if_pos rfl, if_neg hxt, if_pos rfl]
  · rw [if_neg h1]
    by_cases h2 : a = tp
    · rw [if_pos h2, if_pos h2]
    · rw [if_neg h2, if_neg h2, if_neg h1, if_neg h1]
theorem cSt_t {h : mmH} {g : Nat → Int32} : mm_set (cSt h x tp pa T pl hd f) tp (.inl (0, 2000, .inl g)) = cSt h x tp pa T pl hd g := hs_set
theorem cSt_self (hc : cTp h x tp pa T pl hd f) : cSt h x tp pa T pl hd f = h := by
  unfold cSt mm_set
  refine Prod.ext rfl (Prod.ext rfl ?_)
  funext a
  show va_up (va_up h.2.2 x _) tp _ a = h.2.2 a
  unfold va_up
  by_cases h2 : a = tp
  · rw [if_pos h2, h2, hc.2]
  · rw [if_neg h2]
    by_cases h1 : a = x
    · rw [if_pos h1, h1, hc.1]
    · rw [if_neg h1]
theorem cSt_cSt {h : mmH} {T' : Nat} {g : Nat → Int32} {pl' hd' : Value} (hxt : x ≠ tp) : cSt (cSt h x tp pa T pl hd f) x tp pa T' pl' hd' g = cSt h x tp pa T' pl' hd' g := by
  unfold cSt mm_set
  refine Prod.ext rfl (Prod.ext rfl ?_)
  funext a
  show va_up (va_up (va_up (va_up h.2.2 x _) tp _) x _) tp _ a = va_up (va_up h.2.2 x _) tp _ a
  unfold va_up
  by_cases h2 : a = tp
  · simp [h2]
  · by_cases h1 : a = x
    · simp [h1, hxt]
    · simp [h1, h2]
theorem mm_narz (z : Int32) : mm_nar 0 z.toInt8.toInt32 = z.toInt8.toInt32 := pk_vb z
def q_putf (f : Nat → Int32) (T : Nat) (v : Int32) : Nat → Int32 := uf (uf (uf (uf f T (sb_b (q_byte v 24))) (T + 1) (sb_b (q_byte v 16))) (T + 2) (sb_b (q_byte v 8))) (T + 3) (sb_b (q_byte v 0))
theorem sp_cput {v : Int32} (hc : cTp h x tp pa T pl hd f) (hT : T + 4 ≤ 2000) (hq : Q none (cSt h x tp pa (T + 4) pl hd (q_putf f T v))) : mm_Go E d 2 (mm_blk 2 0) [.ref x, .int v, mm_un] [] h Q := by
  have hxt := cTp_ne hc
  have step : ∀ (sh T1 : Nat) (x2 : Int32) (g : Nat → Int32), sh < 32 → T1 < 2000 → nI sh + Int32.ofInt (-8) = x2 → mm_Go E d 2 (mm_blk 2 1) [.ref x, .int v, .int x2] [] (cSt h x tp pa (T1 + 1) pl hd (uf g T1 (sb_b (q_byte v sh)))) Q → mm_Go E d 2 (mm_blk 2 1) [.ref x, .int v, .int (nI sh)] [] (cSt h x tp pa T1 pl hd g) Q := by
    intro sh T1 x2 g hsh hT1 hx2 hg
    obtain ⟨c1, c2⟩ := cSt_tp (h := h) (pa := pa) (T := T1) (pl := pl) (hd := hd) (f := g) hxt
    repeat (first | refine gi_con ?_ | refine gi_bip (Nat.le_of_ble_eq_true rfl) ?_ | refine gi_sip (Nat.le_of_ble_eq_true rfl) ?_ | refine gi_ldc ?_ | refine gi_add ?_ | refine gi_inc rfl ?_ | refine gi_sub (by omega) ?_ | refine gi_mul ?_ | refine go_nx rfl ?_)
    first | refine gz_eq (by omega) (fun c => ?_) (fun c => ?_) | refine gz_ne (by omega) (fun c => ?_) (fun c => ?_) | refine gz_le (by omega) (fun c => ?_) (fun c => ?_) | refine gz_gt (by omega) (fun c => ?_) (fun c => ?_) | refine gz_lt (by omega) (fun c => ?_) (fun c => ?_) | refine gz_ge (by omega) (fun c => ?_) (fun c => ?_)
    · exact c.elim
    repeat (first | refine gi_con ?_ | refine gi_bip (Nat.le_of_ble_eq_true rfl) ?_ | refine gi_sip (Nat.le_of_ble_eq_true rfl) ?_ | refine gi_ldc ?_ | refine gi_add ?_ | refine gi_inc rfl ?_ | refine gi_sub (by omega) ?_ | refine gi_mul ?_ | refine go_nx rfl ?_)
    refine gf_get _ c1 (by decide) rfl ?_
    first | refine gz_eq (by omega) (fun c => ?_) (fun c => ?_) | refine gz_ne (by omega) (fun c => ?_) (fun c => ?_) | refine gz_le (by omega) (fun c => ?_) (fun c => ?_) | refine gz_gt (by omega) (fun c => ?_) (fun c => ?_) | refine gz_lt (by omega) (fun c => ?_) (fun c => ?_) | refine gz_ge (by omega) (fun c => ?_) (fun c => ?_)
    · exact c.elim
    repeat (first | refine gi_con ?_ | refine gi_bip (Nat.le_of_ble_eq_true rfl) ?_ | refine gi_sip (Nat.le_of_ble_eq_true rfl) ?_ | refine gi_ldc ?_ | refine gi_add ?_ | refine gi_inc rfl ?_ | refine gi_sub (by omega) ?_ | refine gi_mul ?_ | refine go_nx rfl ?_)
    refine gf_get _ c1 (by decide) rfl ?_
    repeat (first | refine gi_con ?_ | refine gi_bip (Nat.le_of_ble_eq_true rfl) ?_ | refine gi_sip (Nat.le_of_ble_eq_true rfl) ?_ | refine gi_ldc ?_ | refine gi_add ?_ | refine gi_inc rfl ?_ | refine gi_sub (by omega) ?_ | refine gi_mul ?_ | refine go_nx rfl ?_)
    refine gf_get _ c1 (by decide) rfl ?_
    refine gc_alen c2 rfl ?_
    first | refine gb_lt (by omega) (by omega) (fun c => ?_) (fun c => ?_) | refine gb_ge (by omega) (by omega) (fun c => ?_) (fun c => ?_) | refine gb_gt (by omega) (by omega) (fun c => ?_) (fun c => ?_) | refine gb_le (by omega) (by omega) (fun c => ?_) (fun c => ?_) | refine gb_eq (by omega) (by omega) (fun c => ?_) (fun c => ?_) | refine gb_ne (by omega) (by omega) (fun c => ?_) (fun c => ?_)
    · omega
    repeat (first | refine gi_con ?_ | refine gi_bip (Nat.le_of_ble_eq_true rfl) ?_ | refine gi_sip (Nat.le_of_ble_eq_true rfl) ?_ | refine gi_ldc ?_ | refine gi_add ?_ | refine gi_inc rfl ?_ | refine gi_sub (by omega) ?_ | refine gi_mul ?_ | refine go_nx rfl ?_)
    refine gf_get _ c1 (by decide) rfl ?_
    repeat (first | refine gi_con ?_ | refine gi_bip (Nat.le_of_ble_eq_true rfl) ?_ | refine gi_sip (Nat.le_of_ble_eq_true rfl) ?_ | refine gi_ldc ?_ | refine gi_add ?_ | refine gi_inc rfl ?_ | refine gi_sub (by omega) ?_ | refine gi_mul ?_ | refine go_nx rfl ?_)
    refine gf_get _ c1 (by decide) rfl ?_
    repeat (first | refine gi_con ?_ | refine gi_bip (Nat.le_of_ble_eq_true rfl) ?_ | refine gi_sip (Nat.le_of_ble_eq_true rfl) ?_ | refine gi_ldc ?_ | refine gi_add ?_ | refine gi_inc rfl ?_ | refine gi_sub (by omega) ?_ | refine gi_mul ?_ | refine go_nx rfl ?_)
    refine gc_bst c2 hT1 (by decide) ?_
    rw [mm_narz, q_byte_sb, cSt_t]
    obtain ⟨c3, c4⟩ := cSt_tp (h := h) (pa := pa) (T := T1) (pl := pl) (hd := hd) (f := uf g T1 (sb_b (q_byte v sh))) hxt
    repeat (first | refine gi_con ?_ | refine gi_bip (Nat.le_of_ble_eq_true rfl) ?_ | refine gi_sip (Nat.le_of_ble_eq_true rfl) ?_ | refine gi_ldc ?_ | refine gi_add ?_ | refine gi_inc rfl ?_ | refine gi_sub (by omega) ?_ | refine gi_mul ?_ | refine go_nx rfl ?_)
    refine gf_get _ c3 (by decide) rfl ?_
    repeat (first | refine gi_con ?_ | refine gi_bip (Nat.le_of_ble_eq_true rfl) ?_ | refine gi_sip (Nat.le_of_ble_eq_true rfl) ?_ | refine gi_ldc ?_ | refine gi_add ?_ | refine gi_inc rfl ?_ | refine gi_sub (by omega) ?_ | refine gi_mul ?_ | refine go_nx rfl ?_)
    refine gc_put (fs' := [.ref tp, .ref pa, .int (nI (T1 + 1)), pl, hd]) c3 rfl (Nat.le_of_ble_eq_true rfl) rfl rfl ?_
    rw [cSt_x hxt]
    repeat (first | refine gi_con ?_ | refine gi_bip (Nat.le_of_ble_eq_true rfl) ?_ | refine gi_sip (Nat.le_of_ble_eq_true rfl) ?_ | refine gi_ldc ?_ | refine gi_add ?_ | refine gi_inc rfl ?_ | refine gi_sub (by omega) ?_ | refine gi_mul ?_ | refine go_nx rfl ?_)
    refine go_jp rfl ?_
    repeat (first | refine gi_con ?_ | refine gi_bip (Nat.le_of_ble_eq_true rfl) ?_ | refine gi_sip (Nat.le_of_ble_eq_true rfl) ?_ | refine gi_ldc ?_ | refine gi_add ?_ | refine gi_inc rfl ?_ | refine gi_sub (by omega) ?_ | refine gi_mul ?_ | refine go_nx rfl ?_)
    rw [hx2]
    refine go_jp rfl ?_
    exact hg
  rw [← cSt_self hc]
  repeat (first | refine gi_con ?_ | refine gi_bip (Nat.le_of_ble_eq_true rfl) ?_ | refine gi_sip (Nat.le_of_ble_eq_true rfl) ?_ | refine gi_ldc ?_ | refine gi_add ?_ | refine gi_inc rfl ?_ | refine gi_sub (by omega) ?_ | refine gi_mul ?_ | refine go_nx rfl ?_)
  refine go_jp rfl ?_
  refine step 24 T (nI 16) f (by omega) (by omega) (by decide) ?_
  refine step 16 (T + 1) (nI 8) _ (by omega) (by omega) (by decide) ?_
  refine step 8 (T + 1 + 1) (nI 0) _ (by omega) (by omega) (by decide) ?_
  refine step 0 (T + 1 + 1 + 1) (Int32.ofInt (-8)) _ (by omega) (by omega) (by decide) ?_
  repeat (first | refine gi_con ?_ | refine gi_bip (Nat.le_of_ble_eq_true rfl) ?_ | refine gi_sip (Nat.le_of_ble_eq_true rfl) ?_ | refine gi_ldc ?_ | refine gi_add ?_ | refine gi_inc rfl ?_ | refine gi_sub (by omega) ?_ | refine gi_mul ?_ | refine go_nx rfl ?_)
  refine gx_lt (fun c => ?_) (fun c => absurd (by decide) c)
  refine go_rt rfl ?_
  exact hq
theorem q_putf_lo {g : Nat → Int32} {T j : Nat} {v : Int32} (hj : j < T) : q_putf g T v j = g j := by
  unfold q_putf
  rw [uf_ne (by omega), uf_ne (by omega), uf_ne (by omega), uf_ne (by omega)]
theorem q_putf_at {g : Nat → Int32} {T s : Nat} {v : Int32} (hs : s < 4) : q_putf g T v (T + s) = sb_b (q_byte v (24 - 8 * s)) := by
  unfold q_putf
  have : s = 0 ∨ s = 1 ∨ s = 2 ∨ s = 3 := by omega
  rcases this with rfl | rfl | rfl | rfl
  · rw [uf_ne (by omega), uf_ne (by omega), uf_ne (by omega)]
    exact uf_at _ _ _
  · rw [uf_ne (by omega), uf_ne (by omega), uf_at]
  · rw [uf_ne (by omega), uf_at]
  · rw [uf_at]
theorem sp_cfeed {t : qB} {a b c e g : Int32} (hd1 : 1 ≤ d) (hc : cTp h x tp pa t.1 pl hd f) (ht : t.1 ≤ 2000) (hf : ∀ j, j < t.1 → f j = sb_b (t.2 j))
    (hq : ∀ f', (∀ j, j < (s_feed t [a, b, c, e, g]).1 → f' j = sb_b ((s_feed t [a, b, c, e, g]).2 j)) → Q (some (.int (a_feed t))) (cSt h x tp pa (s_feed t [a, b, c, e, g]).1 pl hd f')) : mm_Go E d 1 (mm_blk 1 0) [.ref x, .int a, .int b, .int c, .int e, .int g] [] h Q := by
  have hxt := cTp_ne hc
  unfold a_feed s_feed at hq
  repeat (first | refine gi_con ?_ | refine gi_bip (Nat.le_of_ble_eq_true rfl) ?_ | refine gi_sip (Nat.le_of_ble_eq_true rfl) ?_ | refine gi_ldc ?_ | refine gi_add ?_ | refine gi_inc rfl ?_ | refine gi_sub (by omega) ?_ | refine gi_mul ?_ | refine go_nx rfl ?_)
  refine gf_get _ hc.1 (by decide) rfl ?_
  repeat (first | refine gi_con ?_ | refine gi_bip (Nat.le_of_ble_eq_true rfl) ?_ | refine gi_sip (Nat.le_of_ble_eq_true rfl) ?_ | refine gi_ldc ?_ | refine gi_add ?_ | refine gi_inc rfl ?_ | refine gi_sub (by omega) ?_ | refine gi_mul ?_ | refine go_nx rfl ?_)
  first | refine gb_lt (by omega) (by omega) (fun c1 => ?_) (fun c1 => ?_) | refine gb_ge (by omega) (by omega) (fun c1 => ?_) (fun c1 => ?_) | refine gb_gt (by omega) (by omega) (fun c1 => ?_) (fun c1 => ?_) | refine gb_le (by omega) (by omega) (fun c1 => ?_) (fun c1 => ?_) | refine gb_eq (by omega) (by omega) (fun c1 => ?_) (fun c1 => ?_) | refine gb_ne (by omega) (by omega) (fun c1 => ?_) (fun c1 => ?_)
  · rw [if_neg (by omega), if_neg (by omega)] at hq
    have rc : ∀ {h : mmH} {T : Nat} {f : Nat → Int32}, cTp h x tp pa T pl hd f → mm_rcv E h 1 (some (.ref x)) = true := fun hc => o_rcv hc.1 rfl (by decide)
    repeat (first | refine gi_con ?_ | refine gi_bip (Nat.le_of_ble_eq_true rfl) ?_ | refine gi_sip (Nat.le_of_ble_eq_true rfl) ?_ | refine gi_ldc ?_ | refine gi_add ?_ | refine gi_inc rfl ?_ | refine gi_sub (by omega) ?_ | refine gi_mul ?_ | refine go_nx rfl ?_)
    refine go_step ?_
    refine g_callV (by decide) (by decide) (Nat.le_of_ble_eq_true rfl) (Nat.le_of_ble_eq_true rfl) (rc hc) (by omega) (Nat.le_of_ble_eq_true rfl) rfl ?_
    refine sp_cput hc (by omega) ?_
    have c2 := cSt_tp (h := h) (pa := pa) (T := t.1 + 4) (pl := pl) (hd := hd) (f := q_putf f t.1 a) hxt
    repeat (first | refine gi_con ?_ | refine gi_bip (Nat.le_of_ble_eq_true rfl) ?_ | refine gi_sip (Nat.le_of_ble_eq_true rfl) ?_ | refine gi_ldc ?_ | refine gi_add ?_ | refine gi_inc rfl ?_ | refine gi_sub (by omega) ?_ | refine gi_mul ?_ | refine go_nx rfl ?_)
    refine go_step ?_
    refine g_callV (by decide) (by decide) (Nat.le_of_ble_eq_true rfl) (Nat.le_of_ble_eq_true rfl) (rc c2) (by omega) (Nat.le_of_ble_eq_true rfl) rfl ?_
    refine sp_cput c2 (by omega) ?_
    rw [cSt_cSt hxt]
    have c3 := cSt_tp (h := h) (pa := pa) (T := t.1 + 4 + 4) (pl := pl) (hd := hd) (f := q_putf (q_putf f t.1 a) (t.1 + 4) b) hxt
    repeat (first | refine gi_con ?_ | refine gi_bip (Nat.le_of_ble_eq_true rfl) ?_ | refine gi_sip (Nat.le_of_ble_eq_true rfl) ?_ | refine gi_ldc ?_ | refine gi_add ?_ | refine gi_inc rfl ?_ | refine gi_sub (by omega) ?_ | refine gi_mul ?_ | refine go_nx rfl ?_)
    refine go_step ?_
    refine g_callV (by decide) (by decide) (Nat.le_of_ble_eq_true rfl) (Nat.le_of_ble_eq_true rfl) (rc c3) (by omega) (Nat.le_of_ble_eq_true rfl) rfl ?_
    refine sp_cput c3 (by omega) ?_
    rw [cSt_cSt hxt]
    have c4 := cSt_tp (h := h) (pa := pa) (T := t.1 + 4 + 4 + 4) (pl := pl) (hd := hd) (f := q_putf (q_putf (q_putf f t.1 a) (t.1 + 4) b) (t.1 + 4 + 4) c) hxt
    repeat (first | refine gi_con ?_ | refine gi_bip (Nat.le_of_ble_eq_true rfl) ?_ | refine gi_sip (Nat.le_of_ble_eq_true rfl) ?_ | refine gi_ldc ?_ | refine gi_add ?_ | refine gi_inc rfl ?_ | refine gi_sub (by omega) ?_ | refine gi_mul ?_ | refine go_nx rfl ?_)
    refine go_step ?_
    refine g_callV (by decide) (by decide) (Nat.le_of_ble_eq_true rfl) (Nat.le_of_ble_eq_true rfl) (rc c4) (by omega) (Nat.le_of_ble_eq_true rfl) rfl ?_
    refine sp_cput c4 (by omega) ?_
    rw [cSt_cSt hxt]
    have c5 := cSt_tp (h := h) (pa := pa) (T := t.1 + 4 + 4 + 4 + 4) (pl := pl) (hd := hd) (f := q_putf (q_putf (q_putf (q_putf f t.1 a) (t.1 + 4) b) (t.1 + 4 + 4) c) (t.1 + 4 + 4 + 4) e) hxt
    repeat (first | refine gi_con ?_ | refine gi_bip (Nat.le_of_ble_eq_true rfl) ?_ | refine gi_sip (Nat.le_of_ble_eq_true rfl) ?_ | refine gi_ldc ?_ | refine gi_add ?_ | refine gi_inc rfl ?_ | refine gi_sub (by omega) ?_ | refine gi_mul ?_ | refine go_nx rfl ?_)
    refine go_step ?_
    refine g_callV (by decide) (by decide) (Nat.le_of_ble_eq_true rfl) (Nat.le_of_ble_eq_true rfl) (rc c5) (by omega) (Nat.le_of_ble_eq_true rfl) rfl ?_
    refine sp_cput c5 (by omega) ?_
    rw [cSt_cSt hxt]
    have c6 := cSt_tp (h := h) (pa := pa) (T := t.1 + 4 + 4 + 4 + 4 + 4) (pl := pl) (hd := hd) (f := q_putf (q_putf (q_putf (q_putf (q_putf f t.1 a) (t.1 + 4) b) (t.1 + 4 + 4) c) (t.1 + 4 + 4 + 4) e) (t.1 + 4 + 4 + 4 + 4) g) hxt
    repeat (first | refine gi_con ?_ | refine gi_bip (Nat.le_of_ble_eq_true rfl) ?_ | refine gi_sip (Nat.le_of_ble_eq_true rfl) ?_ | refine gi_ldc ?_ | refine gi_add ?_ | refine gi_inc rfl ?_ | refine gi_sub (by omega) ?_ | refine gi_mul ?_ | refine go_nx rfl ?_)
    refine gf_get _ c6.1 (by decide) rfl ?_
    refine go_rt rfl ?_
    refine hq _ (fun j hj => ?_)
    have hj : j < t.1 + 20 := hj
    show _ = sb_b (if j < t.1 then t.2 j else q_fedb [a, b, c, e, g] (j - t.1))
    by_cases hjt : j < t.1
    · rw [if_pos hjt, q_putf_lo (by omega), q_putf_lo (by omega), q_putf_lo (by omega), q_putf_lo (by omega), q_putf_lo (by omega)]
      exact hf j hjt
    · rw [if_neg hjt]
      have hdiv : j = t.1 + 4 * ((j - t.1) / 4) + (j - t.1) % 4 := by omega
      have hmod : (j - t.1) % 4 < 4 := Nat.mod_lt _ (by decide)
      unfold q_fedb
      generalize (j - t.1) % 4 = s at hdiv hmod ⊢
      have hq5 : (j - t.1) / 4 = 0 ∨ (j - t.1) / 4 = 1 ∨ (j - t.1) / 4 = 2 ∨ (j - t.1) / 4 = 3 ∨ (j - t.1) / 4 = 4 := by omega
      rcases hq5 with k | k | k | k | k <;> rw [k] at hdiv ⊢
      · rw [q_putf_lo (by omega), q_putf_lo (by omega), q_putf_lo (by omega), q_putf_lo (by omega), show j = t.1 + s by omega, q_putf_at hmod]
        rfl
      · rw [q_putf_lo (by omega), q_putf_lo (by omega), q_putf_lo (by omega), show j = (t.1 + 4) + s by omega, q_putf_at hmod]
        rfl
      · rw [q_putf_lo (by omega), q_putf_lo (by omega), show j = (t.1 + 4 + 4) + s by omega, q_putf_at hmod]
        rfl
      · rw [q_putf_lo (by omega), show j = (t.1 + 4 + 4 + 4) + s by omega, q_putf_at hmod]
        rfl
      · rw [show j = (t.1 + 4 + 4 + 4 + 4) + s by omega, q_putf_at hmod]
        rfl
  · rw [if_pos (by omega), if_pos (by omega)] at hq
    repeat (first | refine gi_con ?_ | refine gi_bip (Nat.le_of_ble_eq_true rfl) ?_ | refine gi_sip (Nat.le_of_ble_eq_true rfl) ?_ | refine gi_ldc ?_ | refine gi_add ?_ | refine gi_inc rfl ?_ | refine gi_sub (by omega) ?_ | refine gi_mul ?_ | refine go_nx rfl ?_)
    refine go_rt rfl ?_
    have := hq f hf
    rwa [cSt_self hc] at this
end C
