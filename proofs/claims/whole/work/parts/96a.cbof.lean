/-! THE CLASS: what the filter says of a path -/
theorem hs_self {h : mmH} {a : Nat} {c : mmC} (ha : h.2.2 a = some c) : mm_set h a c = h := by
  unfold mm_set
  refine Prod.ext rfl (Prod.ext rfl ?_)
  funext b
  show va_up h.2.2 a (some c) b = h.2.2 b
  unfold va_up
  by_cases h1 : b = a
  · rw [if_pos h1, h1, ha]
  · rw [if_neg h1]
section GO
variable {E : mmE} {d m pc idx : Nat} {is : List mmI} {L S : List Value} {h : mmH} {Q : Option Value → mmH → Prop} {ex : List Nat} {off : Int}
theorem gc_ace {a b : Nat} (h1 : a = b → mm_Go E d m (mm_blk m (mm_k0 ex)) L S h Q) (h2 : a ≠ b → mm_Go E d m is L S h Q) : mm_Go E d m ((pc, .if_acmp .eq off, ex) :: is) L (.ref b :: .ref a :: S) h Q := go_br (c := decide (some a = some b)) rfl (fun c => h1 (Option.some.inj (of_decide_eq_true c))) (fun c => h2 (fun q => of_decide_eq_false c (by rw [q])))
theorem gc_ace0 {b : Nat} (h2 : mm_Go E d m is L S h Q) : mm_Go E d m ((pc, .if_acmp .eq off, ex) :: is) L (.ref b :: .null :: S) h Q := go_br (c := decide (none = some b)) rfl (fun c => absurd (of_decide_eq_true c) (fun q => by cases q)) (fun _ => h2)
end GO
section C
variable {E : mmE} {d : Nat} {h : mmH} {Q : Option Value → mmH → Prop} {B N O : Nat → Nat} {row n : Nat} {own : Nat → Nat} {fa : Nat}
/-- the filter as the class keeps it -/
def fDat (E : mmE) (h : mmH) (own : Nat → Nat) (fa n : Nat) (B : Nat → Nat) (row : Nat) (N O : Nat → Nat) : Prop := q_row B n ∧ q_box (q_u8 B) B 16 0 n false = true ∧ (q_flt B 16 false 0 0).1 = 0 ∧ oIs (q_ord B B 17) (fun x => x ∈ q_pre B 16 0) O ∧ fCx h row n B N O ∧ ∃ T cl S g0 g1 cc cs, T ≤ 997 ∧ fSt E h own N O (q_ord B B 17) B (fun x => x ∈ q_pre B 16 0) T fa cl S g0 g1 cc cs (q_colA B 16 0)
/-- the bounds of a path, as the class answers them -/
def kOk (E : mmE) (h : mmH) (own : Nat → Nat) (N O B : Nat → Nat) (p : qP) (v : Value) : Prop := (q_find B p = none ∧ v = .null) ∨ ∃ a cap l R, v = .ref a ∧ q_find B p = some R ∧ gL E h own a cap l ∧ bR h N O l R
theorem zK_col {e m : Nat} {P : Nat → Nat} (hp : q_pn B e P m = true) : zK B (q_colA B 16 0) e = q_col B P m 16 0 := by
  rw [colA_col]
  unfold zK
  congr 1
  exact List.filter_congr (fun z _ => (same_pn hp).symm)
theorem sp_boundsOf {nm : Nat} {p : qP} (hd : 4 ≤ d) (hf : fDat E h own fa n B row N O) (hnm : bRow h nm p.1.1 p.1.2) (hq : ∀ v, kOk E h own N O B p v → Q (some v) h) : mm_Go E d 95 (mm_blk 95 0) [.ref fa, .ref nm, .int (q_t p.2.1), mm_un] [] h Q := by
  obtain ⟨hrow, hbx, hflt, hO, hx, T, cl, S, g0, g1, cc, cs, hT, fa1, f2, f3, f4, lc, es, al, on, a1, a2, a3, a4, a5, a6, a7, a8⟩ := hf
  have hZl : (q_colA B 16 0).length ≤ 100 := by
    obtain ⟨-, -, w1, -⟩ := filt_ok hbx hflt hO
    have : ∀ l : List (Nat × Nat × Nat), l.length ≤ (l.map (zW B)).sum := by
      intro l
      induction l with
      | nil => exact Nat.le_refl _
      | cons x l ih =>
        rw [List.map_cons, List.sum_cons, List.length_cons]
        have : 1 ≤ zW B x := by unfold zW; omega
        omega
    exact Nat.le_trans (this _) w1
  have hn1 := hnm.1
  obtain ⟨f, hf1, -⟩ := hnm.2.1
  have hX : (fun j => p.1.2 (0 + j)) = p.1.2 := funext (fun j => by rw [Nat.zero_add])
  have hpn : ∀ e, cMt B e (fun j => p.1.2 (0 + j)) (p.1.1 - 0) = q_pn B e p.1.2 p.1.1 := fun e => by rw [hX]; rfl
  repeat (first | refine gc_n3 rfl ?_ | refine gc_n6 rfl ?_ | refine gc_n7 rfl ?_ | refine gc_n8 rfl ?_ | refine gc_n9 rfl ?_ | refine gi_con ?_ | refine gi_bip (Nat.le_of_ble_eq_true rfl) ?_ | refine gi_sip (Nat.le_of_ble_eq_true rfl) ?_ | refine gi_ldc ?_ | refine gi_add ?_ | refine gi_inc rfl ?_ | refine gi_sub (by omega) ?_ | refine gi_mul ?_ | refine go_nx rfl ?_)
  refine gc_alen hf1 rfl ?_
  refine go_step ?_
  refine g_callV (by decide) (by decide) (Nat.le_of_ble_eq_true rfl) (Nat.le_of_ble_eq_true rfl) (o_rcv fa1 rfl (by decide)) (by omega) (Nat.le_of_ble_eq_true rfl) rfl ?_
  refine sp_clauseOf (N := N) (O := O) (by omega) hrow fa1 a1 a2 (by omega) (fun i hi => ?_) (fun i hi => ?_) hx.1 hnm (Nat.zero_le _) hn1 (fun hno => ?_) (fun i hi hm => ?_)
  · obtain ⟨⟨cA, cO, la, lo, RA, RO, q1, -⟩, -⟩ := a5 i hi
    exact ⟨_, _, _, q1⟩
  · obtain ⟨lev, lim, q1, q2⟩ := fCx_nd hbx hx (a5 i hi).2.1
    exact ⟨⟨lim, q1.1.1⟩, q2⟩
  · repeat (first | refine gc_n3 rfl ?_ | refine gc_n6 rfl ?_ | refine gc_n7 rfl ?_ | refine gc_n8 rfl ?_ | refine gc_n9 rfl ?_ | refine gi_con ?_ | refine gi_bip (Nat.le_of_ble_eq_true rfl) ?_ | refine gi_sip (Nat.le_of_ble_eq_true rfl) ?_ | refine gi_ldc ?_ | refine gi_add ?_ | refine gi_inc rfl ?_ | refine gi_sub (by omega) ?_ | refine gi_mul ?_ | refine go_nx rfl ?_)
    refine gn_nnN ?_
    repeat (first | refine gc_n3 rfl ?_ | refine gc_n6 rfl ?_ | refine gc_n7 rfl ?_ | refine gc_n8 rfl ?_ | refine gc_n9 rfl ?_ | refine gi_con ?_ | refine gi_bip (Nat.le_of_ble_eq_true rfl) ?_ | refine gi_sip (Nat.le_of_ble_eq_true rfl) ?_ | refine gi_ldc ?_ | refine gi_add ?_ | refine gi_inc rfl ?_ | refine gi_sub (by omega) ?_ | refine gi_mul ?_ | refine go_nx rfl ?_)
    refine go_rt rfl ?_
    refine hq _ (Or.inl ⟨?_, rfl⟩)
    have hK : ∀ ce ∈ q_col B p.1.2 p.1.1 16 0, q_bnd (q_ord B B 17) B ce = none := by
      intro ce hce
      rw [colA_col] at hce
      obtain ⟨z, hz, q⟩ := List.mem_map.mp hce
      obtain ⟨hz1, hz2⟩ := List.mem_filter.mp hz
      cases hb : q_bnd (q_ord B B 17) B ce with
      | none => rfl
      | some l =>
        obtain ⟨i, hi, hsm⟩ := a8 z hz1 (by rw [q, hb]; rfl)
        have h1 := hno i hi
        rw [hpn, same_pn hz2, same_symm hsm] at h1
        cases h1
    have := fall_none hK
    unfold q_find
    split
    · exact this.2
    · exact this.1
  · rw [hpn] at hm
    obtain ⟨⟨cA, cO, la, lo, RA, RO, q1, q2, q3, q4, q5, q6, q7, q8⟩, -⟩ := a5 i hi
    rw [zK_col hm] at q7 q8
    repeat (first | refine gc_n3 rfl ?_ | refine gc_n6 rfl ?_ | refine gc_n7 rfl ?_ | refine gc_n8 rfl ?_ | refine gc_n9 rfl ?_ | refine gi_con ?_ | refine gi_bip (Nat.le_of_ble_eq_true rfl) ?_ | refine gi_sip (Nat.le_of_ble_eq_true rfl) ?_ | refine gi_ldc ?_ | refine gi_add ?_ | refine gi_inc rfl ?_ | refine gi_sub (by omega) ?_ | refine gi_mul ?_ | refine go_nx rfl ?_)
    refine gn_nnR ?_
    repeat (first | refine gc_n3 rfl ?_ | refine gc_n6 rfl ?_ | refine gc_n7 rfl ?_ | refine gc_n8 rfl ?_ | refine gc_n9 rfl ?_ | refine gi_con ?_ | refine gi_bip (Nat.le_of_ble_eq_true rfl) ?_ | refine gi_sip (Nat.le_of_ble_eq_true rfl) ?_ | refine gi_ldc ?_ | refine gi_add ?_ | refine gi_inc rfl ?_ | refine gi_sub (by omega) ?_ | refine gi_mul ?_ | refine go_nx rfl ?_)
    refine gt_eq (fun c1 => ?_) (fun c1 => ?_)
    · repeat (first | refine gc_n3 rfl ?_ | refine gc_n6 rfl ?_ | refine gc_n7 rfl ?_ | refine gc_n8 rfl ?_ | refine gc_n9 rfl ?_ | refine gi_con ?_ | refine gi_bip (Nat.le_of_ble_eq_true rfl) ?_ | refine gi_sip (Nat.le_of_ble_eq_true rfl) ?_ | refine gi_ldc ?_ | refine gi_add ?_ | refine gi_inc rfl ?_ | refine gi_sub (by omega) ?_ | refine gi_mul ?_ | refine go_nx rfl ?_)
      refine gf_get _ q1 (by decide) rfl ?_
      refine go_jp rfl ?_
      refine go_rt rfl ?_
      refine hq _ (Or.inr ⟨al i, cA, la, RA, rfl, ?_, q2, q3⟩)
      unfold q_find
      rw [c1, if_neg (fun q => Bool.noConfusion q)]
      exact q7
    · repeat (first | refine gc_n3 rfl ?_ | refine gc_n6 rfl ?_ | refine gc_n7 rfl ?_ | refine gc_n8 rfl ?_ | refine gc_n9 rfl ?_ | refine gi_con ?_ | refine gi_bip (Nat.le_of_ble_eq_true rfl) ?_ | refine gi_sip (Nat.le_of_ble_eq_true rfl) ?_ | refine gi_ldc ?_ | refine gi_add ?_ | refine gi_inc rfl ?_ | refine gi_sub (by omega) ?_ | refine gi_mul ?_ | refine go_nx rfl ?_)
      refine gf_get _ q1 (by decide) rfl ?_
      refine go_jp rfl ?_
      refine go_rt rfl ?_
      refine hq _ (Or.inr ⟨on i, cO, lo, RO, rfl, ?_, q5, q6⟩)
      unfold q_find
      rw [c1, if_pos rfl]
      exact q8
/-- a path of an index: is it down, its name, is it many-keyed, the filter seen, what is kept of it -/
def pCell (p : qP) (nm : Nat) (seen kept : Value) : mmC := .inr (1, [.int (q_t p.2.2), .ref nm, .int (q_t p.2.1), seen, kept])
theorem sp_boundsBy {pt nm : Nat} {p : qP} {seen kept : Value} (hd : 5 ≤ d) (hf : fDat E h own fa n B row N O) (hp : h.2.2 pt = some (pCell p nm seen kept)) (hnm : bRow h nm p.1.1 p.1.2) (hs : seen = .null ∨ ∃ s, seen = .ref s) (hkp : seen = .ref fa → kOk E h own N O B p kept) (hq : ∀ v, kOk E h own N O B p v → Q (some v) (mm_set h pt (pCell p nm (.ref fa) v))) : mm_Go E d 94 (mm_blk 94 0) [.ref pt, .ref fa] [] h Q := by
  have hp' : h.2.2 pt = some (.inr (1, [.int (q_t p.2.2), .ref nm, .int (q_t p.2.1), seen, kept])) := hp
  have fa1 := hf.2.2.2.2.2
  obtain ⟨T, cl, S, g0, g1, cc, cs, -, fa1, -⟩ := fa1
  have look : seen ≠ .ref fa → mm_Go E d 94 (mm_blk 94 0 |>.drop 4) [.ref pt, .ref fa] [] h Q := by
    intro _
    show mm_Go E d 94 [_, _, _, _, _, _, _, _, _, _, _, _] _ _ _ _
    repeat (first | refine gc_n3 rfl ?_ | refine gc_n6 rfl ?_ | refine gc_n7 rfl ?_ | refine gc_n8 rfl ?_ | refine gc_n9 rfl ?_ | refine gi_con ?_ | refine gi_bip (Nat.le_of_ble_eq_true rfl) ?_ | refine gi_sip (Nat.le_of_ble_eq_true rfl) ?_ | refine gi_ldc ?_ | refine gi_add ?_ | refine gi_inc rfl ?_ | refine gi_sub (by omega) ?_ | refine gi_mul ?_ | refine go_nx rfl ?_)
    refine gf_get _ hp' (by decide) rfl ?_
    repeat (first | refine gc_n3 rfl ?_ | refine gc_n6 rfl ?_ | refine gc_n7 rfl ?_ | refine gc_n8 rfl ?_ | refine gc_n9 rfl ?_ | refine gi_con ?_ | refine gi_bip (Nat.le_of_ble_eq_true rfl) ?_ | refine gi_sip (Nat.le_of_ble_eq_true rfl) ?_ | refine gi_ldc ?_ | refine gi_add ?_ | refine gi_inc rfl ?_ | refine gi_sub (by omega) ?_ | refine gi_mul ?_ | refine go_nx rfl ?_)
    refine gf_get _ hp' (by decide) rfl ?_
    refine go_step ?_
    refine g_callV (by decide) (by decide) (Nat.le_of_ble_eq_true rfl) (Nat.le_of_ble_eq_true rfl) (o_rcv fa1 rfl (by decide)) (by omega) (Nat.le_of_ble_eq_true rfl) rfl ?_
    refine sp_boundsOf (by omega) hf hnm (fun v hv => ?_)
    have vv : v = .null ∨ ∃ a, v = .ref a := by
      rcases hv with ⟨-, q⟩ | ⟨a, _, _, _, q, -⟩
      · exact Or.inl q
      · exact Or.inr ⟨a, q⟩
    have fin : mm_Go E d 94 (mm_blk 94 1) [.ref pt, .ref fa] [] (mm_set h pt (pCell p nm (.ref fa) v)) Q := by
      rcases vv with q | ⟨a, q⟩
      · subst q
        repeat (first | refine gc_n3 rfl ?_ | refine gc_n6 rfl ?_ | refine gc_n7 rfl ?_ | refine gc_n8 rfl ?_ | refine gc_n9 rfl ?_ | refine gi_con ?_ | refine gi_bip (Nat.le_of_ble_eq_true rfl) ?_ | refine gi_sip (Nat.le_of_ble_eq_true rfl) ?_ | refine gi_ldc ?_ | refine gi_add ?_ | refine gi_inc rfl ?_ | refine gi_sub (by omega) ?_ | refine gi_mul ?_ | refine go_nx rfl ?_)
        refine gf_get .null hs_at (by decide) rfl ?_
        refine go_rt rfl ?_
        exact hq _ hv
      · subst q
        repeat (first | refine gc_n3 rfl ?_ | refine gc_n6 rfl ?_ | refine gc_n7 rfl ?_ | refine gc_n8 rfl ?_ | refine gc_n9 rfl ?_ | refine gi_con ?_ | refine gi_bip (Nat.le_of_ble_eq_true rfl) ?_ | refine gi_sip (Nat.le_of_ble_eq_true rfl) ?_ | refine gi_ldc ?_ | refine gi_add ?_ | refine gi_inc rfl ?_ | refine gi_sub (by omega) ?_ | refine gi_mul ?_ | refine go_nx rfl ?_)
        refine gf_get (.ref a) hs_at (by decide) rfl ?_
        refine go_rt rfl ?_
        exact hq _ hv
    rcases vv with q | ⟨a, q⟩
    · subst q
      refine gc_put (fs' := [.int (q_t p.2.2), .ref nm, .int (q_t p.2.1), seen, .null]) hp' rfl (Nat.le_of_ble_eq_true rfl) rfl rfl ?_
      repeat (first | refine gc_n3 rfl ?_ | refine gc_n6 rfl ?_ | refine gc_n7 rfl ?_ | refine gc_n8 rfl ?_ | refine gc_n9 rfl ?_ | refine gi_con ?_ | refine gi_bip (Nat.le_of_ble_eq_true rfl) ?_ | refine gi_sip (Nat.le_of_ble_eq_true rfl) ?_ | refine gi_ldc ?_ | refine gi_add ?_ | refine gi_inc rfl ?_ | refine gi_sub (by omega) ?_ | refine gi_mul ?_ | refine go_nx rfl ?_)
      refine gc_put (fs' := [.int (q_t p.2.2), .ref nm, .int (q_t p.2.1), .ref fa, .null]) hs_at rfl (Nat.le_of_ble_eq_true rfl) rfl rfl ?_
      rw [hs_set]
      repeat (first | refine gc_n3 rfl ?_ | refine gc_n6 rfl ?_ | refine gc_n7 rfl ?_ | refine gc_n8 rfl ?_ | refine gc_n9 rfl ?_ | refine gi_con ?_ | refine gi_bip (Nat.le_of_ble_eq_true rfl) ?_ | refine gi_sip (Nat.le_of_ble_eq_true rfl) ?_ | refine gi_ldc ?_ | refine gi_add ?_ | refine gi_inc rfl ?_ | refine gi_sub (by omega) ?_ | refine gi_mul ?_ | refine go_nx rfl ?_)
      refine go_jp rfl ?_
      exact fin
    · subst q
      refine gc_put (fs' := [.int (q_t p.2.2), .ref nm, .int (q_t p.2.1), seen, .ref a]) hp' rfl (Nat.le_of_ble_eq_true rfl) rfl rfl ?_
      repeat (first | refine gc_n3 rfl ?_ | refine gc_n6 rfl ?_ | refine gc_n7 rfl ?_ | refine gc_n8 rfl ?_ | refine gc_n9 rfl ?_ | refine gi_con ?_ | refine gi_bip (Nat.le_of_ble_eq_true rfl) ?_ | refine gi_sip (Nat.le_of_ble_eq_true rfl) ?_ | refine gi_ldc ?_ | refine gi_add ?_ | refine gi_inc rfl ?_ | refine gi_sub (by omega) ?_ | refine gi_mul ?_ | refine go_nx rfl ?_)
      refine gc_put (fs' := [.int (q_t p.2.2), .ref nm, .int (q_t p.2.1), .ref fa, .ref a]) hs_at rfl (Nat.le_of_ble_eq_true rfl) rfl rfl ?_
      rw [hs_set]
      repeat (first | refine gc_n3 rfl ?_ | refine gc_n6 rfl ?_ | refine gc_n7 rfl ?_ | refine gc_n8 rfl ?_ | refine gc_n9 rfl ?_ | refine gi_con ?_ | refine gi_bip (Nat.le_of_ble_eq_true rfl) ?_ | refine gi_sip (Nat.le_of_ble_eq_true rfl) ?_ | refine gi_ldc ?_ | refine gi_add ?_ | refine gi_inc rfl ?_ | refine gi_sub (by omega) ?_ | refine gi_mul ?_ | refine go_nx rfl ?_)
      refine go_jp rfl ?_
      exact fin
  repeat (first | refine gc_n3 rfl ?_ | refine gc_n6 rfl ?_ | refine gc_n7 rfl ?_ | refine gc_n8 rfl ?_ | refine gc_n9 rfl ?_ | refine gi_con ?_ | refine gi_bip (Nat.le_of_ble_eq_true rfl) ?_ | refine gi_sip (Nat.le_of_ble_eq_true rfl) ?_ | refine gi_ldc ?_ | refine gi_add ?_ | refine gi_inc rfl ?_ | refine gi_sub (by omega) ?_ | refine gi_mul ?_ | refine go_nx rfl ?_)
  refine gf_get _ hp' (by decide) rfl ?_
  rcases hs with q | ⟨s, q⟩
  · subst q
    repeat (first | refine gc_n3 rfl ?_ | refine gc_n6 rfl ?_ | refine gc_n7 rfl ?_ | refine gc_n8 rfl ?_ | refine gc_n9 rfl ?_ | refine gi_con ?_ | refine gi_bip (Nat.le_of_ble_eq_true rfl) ?_ | refine gi_sip (Nat.le_of_ble_eq_true rfl) ?_ | refine gi_ldc ?_ | refine gi_add ?_ | refine gi_inc rfl ?_ | refine gi_sub (by omega) ?_ | refine gi_mul ?_ | refine go_nx rfl ?_)
    refine gc_ace0 ?_
    exact look (fun q => by cases q)
  · subst q
    repeat (first | refine gc_n3 rfl ?_ | refine gc_n6 rfl ?_ | refine gc_n7 rfl ?_ | refine gc_n8 rfl ?_ | refine gc_n9 rfl ?_ | refine gi_con ?_ | refine gi_bip (Nat.le_of_ble_eq_true rfl) ?_ | refine gi_sip (Nat.le_of_ble_eq_true rfl) ?_ | refine gi_ldc ?_ | refine gi_add ?_ | refine gi_inc rfl ?_ | refine gi_sub (by omega) ?_ | refine gi_mul ?_ | refine go_nx rfl ?_)
    refine gc_ace (fun e => ?_) (fun e => ?_)
    · subst e
      have hv := hkp rfl
      have := hq kept hv
      rw [hs_self hp] at this
      rcases hv with ⟨-, q⟩ | ⟨a, _, _, _, q, -⟩
      · subst q
        repeat (first | refine gc_n3 rfl ?_ | refine gc_n6 rfl ?_ | refine gc_n7 rfl ?_ | refine gc_n8 rfl ?_ | refine gc_n9 rfl ?_ | refine gi_con ?_ | refine gi_bip (Nat.le_of_ble_eq_true rfl) ?_ | refine gi_sip (Nat.le_of_ble_eq_true rfl) ?_ | refine gi_ldc ?_ | refine gi_add ?_ | refine gi_inc rfl ?_ | refine gi_sub (by omega) ?_ | refine gi_mul ?_ | refine go_nx rfl ?_)
        refine gf_get _ hp' (by decide) rfl ?_
        refine go_rt rfl ?_
        exact this
      · subst q
        repeat (first | refine gc_n3 rfl ?_ | refine gc_n6 rfl ?_ | refine gc_n7 rfl ?_ | refine gc_n8 rfl ?_ | refine gc_n9 rfl ?_ | refine gi_con ?_ | refine gi_bip (Nat.le_of_ble_eq_true rfl) ?_ | refine gi_sip (Nat.le_of_ble_eq_true rfl) ?_ | refine gi_ldc ?_ | refine gi_add ?_ | refine gi_inc rfl ?_ | refine gi_sub (by omega) ?_ | refine gi_mul ?_ | refine go_nx rfl ?_)
        refine gf_get _ hp' (by decide) rfl ?_
        refine go_rt rfl ?_
        exact this
    · exact look (fun q => by cases q; exact e rfl)
end C
