/-! THE CLASS: the nodes of a box -/
def q_fi (B : Nat → Nat) (N : Nat → Nat) (x : Nat) : Value := if (B x = 3 ∨ B x = 4) ∧ q_val B x + 4 < q_last B (q_val B x) then .ref (N (q_val B x + 4)) else .null
def q_nx (B : Nat → Nat) (N : Nat → Nat) (lim x : Nat) : Value := if q_next B x < lim then .ref (N (q_next B x)) else .null
def nFull (row : Nat) (B N ord : Nat → Nat) (lim x : Nat) : mmC := nCell row B x (q_tf B x) (q_tt B x) (q_nu B x) (q_fi B N x) (q_nx B N lim x) (nI (ord x))
def nEls (h : mmH) (row : Nat) (B N ord : Nat → Nat) (sub : Nat → Prop) (l : List Nat) (lim : Nat) : Prop := ∀ x ∈ l, h.2.2 (N x) = some (nFull row B N ord lim x) ∧ (B x = 3 ∨ B x = 4 → sub (q_val B x))
/-- the nodes of the box at v, k deep -/
def nBox (h : mmH) (row : Nat) (B N ord : Nat → Nat) : Nat → Nat → Prop
  | 0, _ => True
  | k + 1, v => nEls h row B N ord (nBox h row B N ord k) (q_box_els B v) (q_last B v)
/-- all places of the box at v, in their order -/
def q_pre (B : Nat → Nat) : Nat → Nat → List Nat
  | 0, _ => []
  | k + 1, v => (q_box_els B v).flatMap (fun x => x :: (if B x = 3 ∨ B x = 4 then q_pre B k (q_val B x) else []))
def q_preL (B : Nat → Nat) (k : Nat) (l : List Nat) : List Nat := l.flatMap (fun x => x :: (if B x = 3 ∨ B x = 4 then q_pre B k (q_val B x) else []))
theorem q_pre_s (B : Nat → Nat) (k v : Nat) : q_pre B (k + 1) v = q_preL B k (q_box_els B v) := rfl
theorem nBox_s (h : mmH) (row : Nat) (B N ord : Nat → Nat) (k v : Nat) : nBox h row B N ord (k + 1) v = nEls h row B N ord (nBox h row B N ord k) (q_box_els B v) (q_last B v) := rfl
section C
variable {E : mmE} {d : Nat} {h : mmH} {Q : Option Value → mmH → Prop} {r la row n A : Nat} {B N ord : Nat → Nat} {w : Bool}
theorem q_run_lt {p : Nat} (hr : q_row B n) : ∀ {l : List Nat} {x : Nat}, q_run B p x l → (∀ y ∈ l, q_ok B n y ∧ y < p) → (l = [] ∧ x = p) ∨ (∃ l2, l = x :: l2 ∧ x < p) := by
  intro l x h1 h2
  cases l with
  | nil => exact Or.inl ⟨rfl, h1⟩
  | cons y l =>
    obtain ⟨h3, h4⟩ := h1
    subst h3
    exact Or.inr ⟨l, rfl, (h2 y List.mem_cons_self).2⟩
theorem sp_nameDue {wa a p s wk : Nat} {fsw : List Value} {prev : List Nat} {tf tt : Int32} {num : Int64} {fi nx : Value} {od : Int32} (hd : 3 ≤ d) (hc : h.2.2 r = some (rdC la row A w)) (hr : bRow h row n B) (hrow : q_row B n) (hw : h.2.2 wa = some (.inr (4, fsw))) (hw1 : fsw[1]? = some (.int (nI wk))) (hwk : wk < 256) (hw9 : fsw[9]? = some (if prev = [] then .null else .ref (N s)))
    (ha : h.2.2 a = some (nCell row B p tf tt num fi nx od)) (hp : p < n) (hne : q_ne B p < n) (hrun : q_run B p s prev) (hprev : ∀ x ∈ prev, q_ok B n x ∧ x < p) (hnd : ∀ x ∈ prev, h.2.2 (N x) = some (nFull row B N ord p x)) (hcnt : prev.length ≤ 2000)
    (hq : Q (some (.int (q_t (q_nm B (decide (wk = 4)) prev p)))) h) : mm_Go E d 50 (mm_blk 50 0) [.ref r, .ref wa, .ref a, .int (nI prev.length), mm_un] [] h Q := by
  have hn := hr.1
  have hpn := q_ne_is hrow (show p ≤ 2000 by omega)
  have hc0 : h.2.2 r = some (.inr (2, [.ref la, .ref row, .int (nI A), .int (q_t w)])) := hc
  have ha0 : h.2.2 a = some (.inr (4, [.ref row, .int (nI (B p)), .int (nI p), .int (nI (q_ne B p)), .int (nI (q_word B p)), .int (nI (q_cls (B p))), .int tf, .int tt, .long num, fi, nx, .int od])) := ha
  unfold q_nm at hq
  repeat (first | refine gi_con ?_ | refine gi_bip (Nat.le_of_ble_eq_true rfl) ?_ | refine gi_sip (Nat.le_of_ble_eq_true rfl) ?_ | refine gi_ldc ?_ | refine gi_add ?_ | refine gi_inc rfl ?_ | refine gi_sub (by omega) ?_ | refine gi_mul ?_ | refine go_nx rfl ?_)
  refine gf_get (.int (nI wk)) hw (by decide) hw1 ?_
  repeat (first | refine gi_con ?_ | refine gi_bip (Nat.le_of_ble_eq_true rfl) ?_ | refine gi_sip (Nat.le_of_ble_eq_true rfl) ?_ | refine gi_ldc ?_ | refine gi_add ?_ | refine gi_inc rfl ?_ | refine gi_sub (by omega) ?_ | refine gi_mul ?_ | refine go_nx rfl ?_)
  first | refine gb_lt (by omega) (by omega) (fun c1 => ?_) (fun c1 => ?_) | refine gb_ge (by omega) (by omega) (fun c1 => ?_) (fun c1 => ?_) | refine gb_gt (by omega) (by omega) (fun c1 => ?_) (fun c1 => ?_) | refine gb_le (by omega) (by omega) (fun c1 => ?_) (fun c1 => ?_) | refine gb_eq (by omega) (by omega) (fun c1 => ?_) (fun c1 => ?_) | refine gb_ne (by omega) (by omega) (fun c1 => ?_) (fun c1 => ?_)
  · rw [decide_eq_false c1, if_neg (by decide)] at hq
    have loop : ∀ (l : List Nat) (x : Nat), q_run B p x l → (∀ y ∈ l, q_ok B n y ∧ y < p) → (∀ y ∈ l, h.2.2 (N y) = some (nFull row B N ord p y)) → Q (some (.int (q_t (l.all (fun x => !q_same B x B p))))) h → mm_Go E d 50 (mm_blk 50 2) [.ref r, .ref wa, .ref a, .int (nI prev.length), if l = [] then .null else .ref (N x)] [] h Q := by
      intro l
      induction l with
      | nil =>
        intro x hx hl hN hq
        repeat (first | refine gi_con ?_ | refine gi_bip (Nat.le_of_ble_eq_true rfl) ?_ | refine gi_sip (Nat.le_of_ble_eq_true rfl) ?_ | refine gi_ldc ?_ | refine gi_add ?_ | refine gi_inc rfl ?_ | refine gi_sub (by omega) ?_ | refine gi_mul ?_ | refine go_nx rfl ?_)
        refine gn_nN ?_
        repeat (first | refine gi_con ?_ | refine gi_bip (Nat.le_of_ble_eq_true rfl) ?_ | refine gi_sip (Nat.le_of_ble_eq_true rfl) ?_ | refine gi_ldc ?_ | refine gi_add ?_ | refine gi_inc rfl ?_ | refine gi_sub (by omega) ?_ | refine gi_mul ?_ | refine go_nx rfl ?_)
        refine go_rt rfl ?_
        exact hq
      | cons y l ih =>
        intro x hx hl hN hq
        obtain ⟨hx1, hx2⟩ := hx
        subst hx1
        obtain ⟨hy1, hy2⟩ := hl y List.mem_cons_self
        have hny := q_ne_is hrow (show y ≤ 2000 by omega)
        have hy3 := hy1.2.1
        have hcy : h.2.2 (N y) = some (.inr (4, [.ref row, .int (nI (B y)), .int (nI y), .int (nI (q_ne B y)), .int (nI (q_word B y)), .int (nI (q_cls (B y))), .int (q_tf B y), .int (q_tt B y), .long (q_nu B y), q_fi B N y, q_nx B N p y, .int (nI (ord y))])) := hN y List.mem_cons_self
        rw [List.all_cons] at hq
        rw [if_neg (by simp)]
        repeat (first | refine gi_con ?_ | refine gi_bip (Nat.le_of_ble_eq_true rfl) ?_ | refine gi_sip (Nat.le_of_ble_eq_true rfl) ?_ | refine gi_ldc ?_ | refine gi_add ?_ | refine gi_inc rfl ?_ | refine gi_sub (by omega) ?_ | refine gi_mul ?_ | refine go_nx rfl ?_)
        refine gn_nR ?_
        repeat (first | refine gi_con ?_ | refine gi_bip (Nat.le_of_ble_eq_true rfl) ?_ | refine gi_sip (Nat.le_of_ble_eq_true rfl) ?_ | refine gi_ldc ?_ | refine gi_add ?_ | refine gi_inc rfl ?_ | refine gi_sub (by omega) ?_ | refine gi_mul ?_ | refine go_nx rfl ?_)
        refine gf_get _ hc0 (by decide) rfl ?_
        repeat (first | refine gi_con ?_ | refine gi_bip (Nat.le_of_ble_eq_true rfl) ?_ | refine gi_sip (Nat.le_of_ble_eq_true rfl) ?_ | refine gi_ldc ?_ | refine gi_add ?_ | refine gi_inc rfl ?_ | refine gi_sub (by omega) ?_ | refine gi_mul ?_ | refine go_nx rfl ?_)
        refine go_step ?_
        refine g_callV (by decide) (by decide) (Nat.le_of_ble_eq_true rfl) (Nat.le_of_ble_eq_true rfl) (o_rcv hcy rfl (by decide)) (by omega) (Nat.le_of_ble_eq_true rfl) rfl ?_
        refine sp_nmFrom hcy rfl ?_
        repeat (first | refine gi_con ?_ | refine gi_bip (Nat.le_of_ble_eq_true rfl) ?_ | refine gi_sip (Nat.le_of_ble_eq_true rfl) ?_ | refine gi_ldc ?_ | refine gi_add ?_ | refine gi_inc rfl ?_ | refine gi_sub (by omega) ?_ | refine gi_mul ?_ | refine go_nx rfl ?_)
        refine gf_get _ hcy (by decide) rfl ?_
        repeat (first | refine gi_con ?_ | refine gi_bip (Nat.le_of_ble_eq_true rfl) ?_ | refine gi_sip (Nat.le_of_ble_eq_true rfl) ?_ | refine gi_ldc ?_ | refine gi_add ?_ | refine gi_inc rfl ?_ | refine gi_sub (by omega) ?_ | refine gi_mul ?_ | refine go_nx rfl ?_)
        refine gf_get _ hc0 (by decide) rfl ?_
        repeat (first | refine gi_con ?_ | refine gi_bip (Nat.le_of_ble_eq_true rfl) ?_ | refine gi_sip (Nat.le_of_ble_eq_true rfl) ?_ | refine gi_ldc ?_ | refine gi_add ?_ | refine gi_inc rfl ?_ | refine gi_sub (by omega) ?_ | refine gi_mul ?_ | refine go_nx rfl ?_)
        refine go_step ?_
        refine g_callV (by decide) (by decide) (Nat.le_of_ble_eq_true rfl) (Nat.le_of_ble_eq_true rfl) (o_rcv ha0 rfl (by decide)) (by omega) (Nat.le_of_ble_eq_true rfl) rfl ?_
        refine sp_nmFrom ha0 rfl ?_
        repeat (first | refine gi_con ?_ | refine gi_bip (Nat.le_of_ble_eq_true rfl) ?_ | refine gi_sip (Nat.le_of_ble_eq_true rfl) ?_ | refine gi_ldc ?_ | refine gi_add ?_ | refine gi_inc rfl ?_ | refine gi_sub (by omega) ?_ | refine gi_mul ?_ | refine go_nx rfl ?_)
        refine gf_get _ ha0 (by decide) rfl ?_
        repeat (first | refine gi_con ?_ | refine gi_bip (Nat.le_of_ble_eq_true rfl) ?_ | refine gi_sip (Nat.le_of_ble_eq_true rfl) ?_ | refine gi_ldc ?_ | refine gi_add ?_ | refine gi_inc rfl ?_ | refine gi_sub (by omega) ?_ | refine gi_mul ?_ | refine go_nx rfl ?_)
        refine go_step ?_
        refine g_call (k := 14) rfl (by omega) (Nat.le_of_ble_eq_true rfl) rfl ?_
        refine sp_compare (by omega) hr hr (by omega) (by omega) (by omega) (by omega) ?_
        refine gx_ne (fun c2 => ?_) (fun c2 => ?_)
        · rw [show q_same B y B p = false from decide_eq_false c2, Bool.not_false, Bool.true_and] at hq
          repeat (first | refine gi_con ?_ | refine gi_bip (Nat.le_of_ble_eq_true rfl) ?_ | refine gi_sip (Nat.le_of_ble_eq_true rfl) ?_ | refine gi_ldc ?_ | refine gi_add ?_ | refine gi_inc rfl ?_ | refine gi_sub (by omega) ?_ | refine gi_mul ?_ | refine go_nx rfl ?_)
          refine gf_get _ hcy (by decide) rfl ?_
          have hnx : q_nx B N p y = if l = [] then .null else .ref (N (q_next B y)) := by
            unfold q_nx
            rcases q_run_lt hrow hx2 (fun z hz => hl z (List.mem_cons_of_mem _ hz)) with ⟨e1, e2⟩ | ⟨l2, e1, e2⟩
            · rw [if_neg (by omega), if_pos e1]
            · rw [if_pos e2, if_neg (by rw [e1]; simp)]
          have := ih (q_next B y) hx2 (fun z hz => hl z (List.mem_cons_of_mem _ hz)) (fun z hz => hN z (List.mem_cons_of_mem _ hz)) hq
          rw [← hnx] at this
          have hv : q_nx B N p y = .null ∨ ∃ z, q_nx B N p y = .ref z := by
            unfold q_nx
            split
            · exact Or.inr ⟨_, rfl⟩
            · exact Or.inl rfl
          rcases hv with hv | ⟨z, hv⟩
          · rw [hv] at this ⊢
            repeat (first | refine gi_con ?_ | refine gi_bip (Nat.le_of_ble_eq_true rfl) ?_ | refine gi_sip (Nat.le_of_ble_eq_true rfl) ?_ | refine gi_ldc ?_ | refine gi_add ?_ | refine gi_inc rfl ?_ | refine gi_sub (by omega) ?_ | refine gi_mul ?_ | refine go_nx rfl ?_)
            refine go_jp rfl ?_
            exact this
          · rw [hv] at this ⊢
            repeat (first | refine gi_con ?_ | refine gi_bip (Nat.le_of_ble_eq_true rfl) ?_ | refine gi_sip (Nat.le_of_ble_eq_true rfl) ?_ | refine gi_ldc ?_ | refine gi_add ?_ | refine gi_inc rfl ?_ | refine gi_sub (by omega) ?_ | refine gi_mul ?_ | refine go_nx rfl ?_)
            refine go_jp rfl ?_
            exact this
        · rw [show q_same B y B p = true from decide_eq_true c2] at hq
          repeat (first | refine gi_con ?_ | refine gi_bip (Nat.le_of_ble_eq_true rfl) ?_ | refine gi_sip (Nat.le_of_ble_eq_true rfl) ?_ | refine gi_ldc ?_ | refine gi_add ?_ | refine gi_inc rfl ?_ | refine gi_sub (by omega) ?_ | refine gi_mul ?_ | refine go_nx rfl ?_)
          refine go_rt rfl ?_
          exact hq
    repeat (first | refine gi_con ?_ | refine gi_bip (Nat.le_of_ble_eq_true rfl) ?_ | refine gi_sip (Nat.le_of_ble_eq_true rfl) ?_ | refine gi_ldc ?_ | refine gi_add ?_ | refine gi_inc rfl ?_ | refine gi_sub (by omega) ?_ | refine gi_mul ?_ | refine go_nx rfl ?_)
    refine gf_get _ hw (by decide) hw9 ?_
    have := loop prev s hrun hprev hnd hq
    by_cases hpe : prev = []
    · rw [if_pos hpe] at this ⊢
      repeat (first | refine gi_con ?_ | refine gi_bip (Nat.le_of_ble_eq_true rfl) ?_ | refine gi_sip (Nat.le_of_ble_eq_true rfl) ?_ | refine gi_ldc ?_ | refine gi_add ?_ | refine gi_inc rfl ?_ | refine gi_sub (by omega) ?_ | refine gi_mul ?_ | refine go_nx rfl ?_)
      refine go_jp rfl ?_
      exact this
    · rw [if_neg hpe] at this ⊢
      repeat (first | refine gi_con ?_ | refine gi_bip (Nat.le_of_ble_eq_true rfl) ?_ | refine gi_sip (Nat.le_of_ble_eq_true rfl) ?_ | refine gi_ldc ?_ | refine gi_add ?_ | refine gi_inc rfl ?_ | refine gi_sub (by omega) ?_ | refine gi_mul ?_ | refine go_nx rfl ?_)
      refine go_jp rfl ?_
      exact this
  · rw [decide_eq_true c1, if_pos rfl] at hq
    repeat (first | refine gi_con ?_ | refine gi_bip (Nat.le_of_ble_eq_true rfl) ?_ | refine gi_sip (Nat.le_of_ble_eq_true rfl) ?_ | refine gi_ldc ?_ | refine gi_add ?_ | refine gi_inc rfl ?_ | refine gi_sub (by omega) ?_ | refine gi_mul ?_ | refine go_nx rfl ?_)
    refine gf_get _ hc0 (by decide) rfl ?_
    repeat (first | refine gi_con ?_ | refine gi_bip (Nat.le_of_ble_eq_true rfl) ?_ | refine gi_sip (Nat.le_of_ble_eq_true rfl) ?_ | refine gi_ldc ?_ | refine gi_add ?_ | refine gi_inc rfl ?_ | refine gi_sub (by omega) ?_ | refine gi_mul ?_ | refine go_nx rfl ?_)
    refine go_step ?_
    refine g_callV (by decide) (by decide) (Nat.le_of_ble_eq_true rfl) (Nat.le_of_ble_eq_true rfl) (o_rcv ha0 rfl (by decide)) (by omega) (Nat.le_of_ble_eq_true rfl) rfl ?_
    refine sp_nmFrom ha0 rfl ?_
    repeat (first | refine gi_con ?_ | refine gi_bip (Nat.le_of_ble_eq_true rfl) ?_ | refine gi_sip (Nat.le_of_ble_eq_true rfl) ?_ | refine gi_ldc ?_ | refine gi_add ?_ | refine gi_inc rfl ?_ | refine gi_sub (by omega) ?_ | refine gi_mul ?_ | refine go_nx rfl ?_)
    refine gf_get _ ha0 (by decide) rfl ?_
    repeat (first | refine gi_con ?_ | refine gi_bip (Nat.le_of_ble_eq_true rfl) ?_ | refine gi_sip (Nat.le_of_ble_eq_true rfl) ?_ | refine gi_ldc ?_ | refine gi_add ?_ | refine gi_inc rfl ?_ | refine gi_sub (by omega) ?_ | refine gi_mul ?_ | refine go_nx rfl ?_)
    refine go_step ?_
    refine g_call (k := 52) rfl (by omega) (Nat.le_of_ble_eq_true rfl) rfl ?_
    refine sp_isDecimal (by omega) hr (by omega) (by omega) (by omega) (by omega) ?_
    exact go_rtB rfl hq
end C
