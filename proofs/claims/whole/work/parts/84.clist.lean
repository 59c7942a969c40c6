/-! THE CLASS: ArrayList -/
def aCell (t n : Nat) (f : Nat → Option Nat) : mmC := .inl (t, n, .inr (.inr (.inr (.inr f))))
/-- what the start gives for lists -/
def sE (E : mmE) : Prop := (∃ t f, E.2.1 0 = .ref t ∧ E.2.2 0 t = some (.inl (3, 0, f)) ∧ t < E.1) ∧ ∃ mi, E.2.1 3 = .ref mi
def aArr (E : mmE) (h : mmH) (ed N : Nat) (l : List Nat) : Prop := (N = 0 ∧ l = [] ∧ E.2.1 0 = .ref ed) ∨ (10 ≤ N ∧ l.length ≤ N ∧ ∃ f, h.2.2 ed = some (aCell 3 N f) ∧ ∀ k, k < l.length → f k = some (l.getD k 0))
/-- a list at a: its row ed of N places, its members l -/
def aL (E : mmE) (h : mmH) (a ed N : Nat) (l : List Nat) : Prop := (∃ mc, h.2.2 a = some (.inr (3, [.ref ed, .int (nI l.length), .int mc]))) ∧ aArr E h ed N l ∧ N ≤ 100000
section A
variable {E : mmE} {d : Nat} {h : mmH} {Q : Option Value → mmH → Prop} {a ed N : Nat} {l : List Nat}
theorem aL_rcv (ha : aL E h a ed N l) : mm_rcv E h 4 (some (.ref a)) = true := by
  obtain ⟨⟨mc, h1⟩, -⟩ := ha
  exact o_rcv h1 rfl (by decide)
theorem aL_len (ha : aL E h a ed N l) : l.length ≤ N := by
  rcases ha.2.1 with ⟨h1, h2, -⟩ | ⟨-, h2, -⟩
  · rw [h2]; simp
  · exact h2
theorem aL_alen (hE : sE E) (hk : hOk E h) (ha : aL E h a ed N l) : mm_len E h ed = some N := by
  unfold mm_len
  rcases ha.2.1 with ⟨h1, h2, h3⟩ | ⟨-, -, f, h3, -⟩
  · obtain ⟨⟨t, f, e1, e2, e3⟩, -⟩ := hE
    rw [h3] at e1
    cases e1
    rw [hk.2.1 ed e3, e2, h1]
  · rw [h3]
    rfl
theorem sp_max {x y : Nat} (hx : x < 2 ^ 31) (hy : y < 2 ^ 31) (hq : Q (some (.int (nI (max x y)))) h) : mm_Go E d 45 (mm_blk 45 0) [.int (nI x), .int (nI y)] [] h Q := by
  repeat (first | refine gi_con ?_ | refine gi_bip (Nat.le_of_ble_eq_true rfl) ?_ | refine gi_sip (Nat.le_of_ble_eq_true rfl) ?_ | refine gi_ldc ?_ | refine gi_add ?_ | refine gi_inc rfl ?_ | refine gi_sub (by omega) ?_ | refine gi_mul ?_ | refine go_nx rfl ?_)
  first | refine gb_lt (by omega) (by omega) (fun c => ?_) (fun c => ?_) | refine gb_ge (by omega) (by omega) (fun c => ?_) (fun c => ?_) | refine gb_gt (by omega) (by omega) (fun c => ?_) (fun c => ?_) | refine gb_le (by omega) (by omega) (fun c => ?_) (fun c => ?_) | refine gb_eq (by omega) (by omega) (fun c => ?_) (fun c => ?_) | refine gb_ne (by omega) (by omega) (fun c => ?_) (fun c => ?_)
  · rw [Nat.max_eq_right (by omega)] at hq
    repeat (first | refine gi_con ?_ | refine gi_bip (Nat.le_of_ble_eq_true rfl) ?_ | refine gi_sip (Nat.le_of_ble_eq_true rfl) ?_ | refine gi_ldc ?_ | refine gi_add ?_ | refine gi_inc rfl ?_ | refine gi_sub (by omega) ?_ | refine gi_mul ?_ | refine go_nx rfl ?_)
    refine go_jp rfl ?_
    refine go_rt rfl ?_
    exact hq
  · rw [Nat.max_eq_left (by omega)] at hq
    repeat (first | refine gi_con ?_ | refine gi_bip (Nat.le_of_ble_eq_true rfl) ?_ | refine gi_sip (Nat.le_of_ble_eq_true rfl) ?_ | refine gi_ldc ?_ | refine gi_add ?_ | refine gi_inc rfl ?_ | refine gi_sub (by omega) ?_ | refine gi_mul ?_ | refine go_nx rfl ?_)
    refine go_jp rfl ?_
    refine go_rt rfl ?_
    exact hq
theorem sp_newLength {x y z : Nat} (h0 : 0 < x + max y z) (h1 : x + max y z < 2000000000) (hd : 1 ≤ d) (hq : Q (some (.int (nI (x + max y z)))) h) : mm_Go E d 44 (mm_blk 44 0) [.int (nI x), .int (nI y), .int (nI z), mm_un] [] h Q := by
  repeat (first | refine gi_con ?_ | refine gi_bip (Nat.le_of_ble_eq_true rfl) ?_ | refine gi_sip (Nat.le_of_ble_eq_true rfl) ?_ | refine gi_ldc ?_ | refine gi_add ?_ | refine gi_inc rfl ?_ | refine gi_sub (by omega) ?_ | refine gi_mul ?_ | refine go_nx rfl ?_)
  refine go_step ?_
  refine g_call (k := 45) rfl (by omega) (Nat.le_of_ble_eq_true rfl) rfl ?_
  refine sp_max (by omega) (by omega) ?_
  repeat (first | refine gi_con ?_ | refine gi_bip (Nat.le_of_ble_eq_true rfl) ?_ | refine gi_sip (Nat.le_of_ble_eq_true rfl) ?_ | refine gi_ldc ?_ | refine gi_add ?_ | refine gi_inc rfl ?_ | refine gi_sub (by omega) ?_ | refine gi_mul ?_ | refine go_nx rfl ?_)
  first | refine gb_lt (by omega) (by omega) (fun c => ?_) (fun c => ?_) | refine gb_ge (by omega) (by omega) (fun c => ?_) (fun c => ?_) | refine gb_gt (by omega) (by omega) (fun c => ?_) (fun c => ?_) | refine gb_le (by omega) (by omega) (fun c => ?_) (fun c => ?_) | refine gb_eq (by omega) (by omega) (fun c => ?_) (fun c => ?_) | refine gb_ne (by omega) (by omega) (fun c => ?_) (fun c => ?_)
  · omega
  repeat (first | refine gi_con ?_ | refine gi_bip (Nat.le_of_ble_eq_true rfl) ?_ | refine gi_sip (Nat.le_of_ble_eq_true rfl) ?_ | refine gi_ldc ?_ | refine gi_add ?_ | refine gi_inc rfl ?_ | refine gi_sub (by omega) ?_ | refine gi_mul ?_ | refine go_nx rfl ?_)
  first | refine gb_lt (by omega) (by omega) (fun c2 => ?_) (fun c2 => ?_) | refine gb_ge (by omega) (by omega) (fun c2 => ?_) (fun c2 => ?_) | refine gb_gt (by omega) (by omega) (fun c2 => ?_) (fun c2 => ?_) | refine gb_le (by omega) (by omega) (fun c2 => ?_) (fun c2 => ?_) | refine gb_eq (by omega) (by omega) (fun c2 => ?_) (fun c2 => ?_) | refine gb_ne (by omega) (by omega) (fun c2 => ?_) (fun c2 => ?_)
  · omega
  repeat (first | refine gi_con ?_ | refine gi_bip (Nat.le_of_ble_eq_true rfl) ?_ | refine gi_sip (Nat.le_of_ble_eq_true rfl) ?_ | refine gi_ldc ?_ | refine gi_add ?_ | refine gi_inc rfl ?_ | refine gi_sub (by omega) ?_ | refine gi_mul ?_ | refine go_nx rfl ?_)
  refine go_rt rfl ?_
  exact hq
theorem gc_copyR {m pc idx : Nat} {is : List mmI} {L S : List Value} {ex : List Nat} {b c n0 n1 sp dp n : Nat} {f g : Nat → Option Nat} (hb : h.2.2 b = some (aCell 3 n0 f)) (hc : h.2.2 c = some (aCell 3 n1 g)) (h0 : mm_k0 ex = 1000) (h1 : sp + n ≤ n0) (h2 : dp + n ≤ n1) (h3 : n0 < 2 ^ 30) (h4 : n1 < 2 ^ 30) (hs : mm_sum S ≤ 8) (hg : mm_Go E d m is L S (mm_set h c (aCell 3 n1 (va_cpy f g sp dp n))) Q) : mm_Go E d m ((pc, .invokestatic idx, ex) :: is) L (.int (nI n) :: .int (nI dp) :: .ref c :: .int (nI sp) :: .ref b :: S) h Q := by
  refine go_nx (L' := L) (S' := S) (h' := mm_set h c (aCell 3 n1 (va_cpy f g sp dp n))) ?_ hg
  show (if mm_k0 ex = 1000 then mm_copy L (.int (nI n) :: .int (nI dp) :: .ref c :: .int (nI sp) :: .ref b :: S) h else _) = _
  rw [if_pos h0]
  unfold mm_copy
  dsimp only
  rw [hb, hc]
  unfold aCell
  dsimp only
  rw [nI_clamp (by omega), nI_clamp (by omega), nI_clamp (by omega), if_pos ⟨nI_pos (by omega), nI_pos (by omega), nI_pos (by omega), rfl, rfl, h1, h2, hs⟩]
theorem sp_copyOf {b n0 n1 : Nat} {f : Nat → Option Nat} (hd : 2 ≤ d) (hE : sE E) (hk : hOk E h) (hb : h.2.2 b = some (aCell 3 n0 f)) (h0 : n0 ≤ n1) (h1 : n1 ≤ 1000000) (hq : Q (some (.ref h.1)) (mm_new h n1 (aCell 3 n1 (va_cpy f (fun _ => none) 0 0 n0)))) : mm_Go E d 46 (mm_blk 46 0) [.ref b, .int (nI n1)] [] h Q := by
  obtain ⟨-, mi, hmi⟩ := hE
  have hb' : h.2.2 b = some (.inl (3, n0, .inr (.inr (.inr (.inr f))))) := hb
  have hlt := hOk_lt hk hb
  repeat (first | refine gi_con ?_ | refine gi_bip (Nat.le_of_ble_eq_true rfl) ?_ | refine gi_sip (Nat.le_of_ble_eq_true rfl) ?_ | refine gi_ldc ?_ | refine gi_add ?_ | refine gi_inc rfl ?_ | refine gi_sub (by omega) ?_ | refine gi_mul ?_ | refine go_nx rfl ?_)
  refine go_nx (L' := [.ref b, .int (nI n1)]) (S' := [.ref mi, .int (nI n1), .ref b]) (h' := h) ?_ ?_
  · show (match h.2.2 b with
      | some (.inl (t, _)) => if t = 3 ∧ mm_sum [.int (nI n1), .ref b] ≤ 8 then mm_nx [.ref b, .int (nI n1)] (E.2.1 3 :: [.int (nI n1), .ref b]) h else mm_bad
      | _ => mm_bad) = _
    rw [hb', hmi]
    exact if_pos ⟨rfl, Nat.le_of_ble_eq_true rfl⟩
  repeat (first | refine gi_con ?_ | refine gi_bip (Nat.le_of_ble_eq_true rfl) ?_ | refine gi_sip (Nat.le_of_ble_eq_true rfl) ?_ | refine gi_ldc ?_ | refine gi_add ?_ | refine gi_inc rfl ?_ | refine gi_sub (by omega) ?_ | refine gi_mul ?_ | refine go_nx rfl ?_)
  refine go_step ?_
  refine g_call (k := 47) rfl (by omega) (Nat.le_of_ble_eq_true rfl) rfl ?_
  repeat (first | refine gi_con ?_ | refine gi_bip (Nat.le_of_ble_eq_true rfl) ?_ | refine gi_sip (Nat.le_of_ble_eq_true rfl) ?_ | refine gi_ldc ?_ | refine gi_add ?_ | refine gi_inc rfl ?_ | refine gi_sub (by omega) ?_ | refine gi_mul ?_ | refine go_nx rfl ?_)
  show mm_Go E (d - 1) 47 _ _ [E.2.1 3, .ref mi] h _
  rw [hmi]
  refine go_br (c := decide (¬ (some mi : Option Nat) = some mi)) rfl (fun c => absurd rfl (of_decide_eq_true c)) (fun _ => ?_)
  repeat (first | refine gi_con ?_ | refine gi_bip (Nat.le_of_ble_eq_true rfl) ?_ | refine gi_sip (Nat.le_of_ble_eq_true rfl) ?_ | refine gi_ldc ?_ | refine gi_add ?_ | refine gi_inc rfl ?_ | refine gi_sub (by omega) ?_ | refine gi_mul ?_ | refine go_nx rfl ?_)
  refine gc_newA h1 rfl ?_
  refine go_jp rfl ?_
  have hbn : (mm_new h n1 (.inl (3, n1, .inr (.inr (.inr (.inr fun _ => none)))))).2.2 b = some (aCell 3 n0 f) := by rw [hn_ne (by omega)]; exact hb
  repeat (first | refine gi_con ?_ | refine gi_bip (Nat.le_of_ble_eq_true rfl) ?_ | refine gi_sip (Nat.le_of_ble_eq_true rfl) ?_ | refine gi_ldc ?_ | refine gi_add ?_ | refine gi_inc rfl ?_ | refine gi_sub (by omega) ?_ | refine gi_mul ?_ | refine go_nx rfl ?_)
  refine gc_alen hbn rfl ?_
  repeat (first | refine gi_con ?_ | refine gi_bip (Nat.le_of_ble_eq_true rfl) ?_ | refine gi_sip (Nat.le_of_ble_eq_true rfl) ?_ | refine gi_ldc ?_ | refine gi_add ?_ | refine gi_inc rfl ?_ | refine gi_sub (by omega) ?_ | refine gi_mul ?_ | refine go_nx rfl ?_)
  refine go_step ?_
  refine g_call (k := 7) rfl (by omega) (Nat.le_of_ble_eq_true rfl) rfl ?_
  refine sp_min (by omega) (by omega) ?_
  rw [Nat.min_eq_left h0]
  refine gc_copyR (sp := 0) (dp := 0) hbn hn_at rfl (by omega) (by omega) (by omega) (by omega) (Nat.le_of_ble_eq_true rfl) ?_
  rw [hn_set]
  repeat (first | refine gi_con ?_ | refine gi_bip (Nat.le_of_ble_eq_true rfl) ?_ | refine gi_sip (Nat.le_of_ble_eq_true rfl) ?_ | refine gi_ldc ?_ | refine gi_add ?_ | refine gi_inc rfl ?_ | refine gi_sub (by omega) ?_ | refine gi_mul ?_ | refine go_nx rfl ?_)
  refine go_rt rfl ?_
  repeat (first | refine gi_con ?_ | refine gi_bip (Nat.le_of_ble_eq_true rfl) ?_ | refine gi_sip (Nat.le_of_ble_eq_true rfl) ?_ | refine gi_ldc ?_ | refine gi_add ?_ | refine gi_inc rfl ?_ | refine gi_sub (by omega) ?_ | refine gi_mul ?_ | refine go_nx rfl ?_)
  refine go_rt rfl ?_
  exact hq
/-- how a full row grows -/
def aGr (N : Nat) : Nat := if N = 0 then 10 else N + N / 2
theorem sp_grow (hd : 4 ≤ d) (hE : sE E) (hk : hOk E h) (ha : aL E h a ed N l) (hf : l.length = N) (hN : N ≤ 60000)
    (hq : ∀ mc f, h.2.2 a = some (.inr (3, [.ref ed, .int (nI l.length), .int mc])) → (∀ k, k < l.length → f k = some (l.getD k 0)) → Q (some (.ref h.1)) (mm_set (mm_new h (aGr N) (aCell 3 (aGr N) f)) a (.inr (3, [.ref h.1, .int (nI l.length), .int mc])))) : mm_Go E d 42 (mm_blk 42 0) [.ref a] [] h Q := by
  obtain ⟨⟨mc, h1⟩, harr, hN1⟩ := ha
  have hal := aL_alen hE hk ⟨⟨mc, h1⟩, harr, hN1⟩
  have hlt := hOk_lt hk h1
  have key : ∀ f, (∀ k, k < l.length → f k = some (l.getD k 0)) → Q (some (.ref h.1)) (mm_set (mm_new h (aGr N) (aCell 3 (aGr N) f)) a (.inr (3, [.ref h.1, .int (nI l.length), .int mc]))) := fun f hf' => hq mc f h1 hf'
  repeat (first | refine gi_con ?_ | refine gi_bip (Nat.le_of_ble_eq_true rfl) ?_ | refine gi_sip (Nat.le_of_ble_eq_true rfl) ?_ | refine gi_ldc ?_ | refine gi_add ?_ | refine gi_inc rfl ?_ | refine gi_sub (by omega) ?_ | refine gi_mul ?_ | refine go_nx rfl ?_)
  refine gf_get _ h1 (by decide) rfl ?_
  repeat (first | refine gi_con ?_ | refine gi_bip (Nat.le_of_ble_eq_true rfl) ?_ | refine gi_sip (Nat.le_of_ble_eq_true rfl) ?_ | refine gi_ldc ?_ | refine gi_add ?_ | refine gi_inc rfl ?_ | refine gi_sub (by omega) ?_ | refine gi_mul ?_ | refine go_nx rfl ?_)
  refine go_step ?_
  refine g_callV (by decide) (by decide) (Nat.le_of_ble_eq_true rfl) (Nat.le_of_ble_eq_true rfl) (o_rcv h1 rfl (by decide)) (by omega) (Nat.le_of_ble_eq_true rfl) rfl ?_
  repeat (first | refine gi_con ?_ | refine gi_bip (Nat.le_of_ble_eq_true rfl) ?_ | refine gi_sip (Nat.le_of_ble_eq_true rfl) ?_ | refine gi_ldc ?_ | refine gi_add ?_ | refine gi_inc rfl ?_ | refine gi_sub (by omega) ?_ | refine gi_mul ?_ | refine go_nx rfl ?_)
  refine gf_get _ h1 (by decide) rfl ?_
  refine go_step (g_alen hal ?_)
  rw [show Int32.ofNat N = nI N from rfl]
  repeat (first | refine gi_con ?_ | refine gi_bip (Nat.le_of_ble_eq_true rfl) ?_ | refine gi_sip (Nat.le_of_ble_eq_true rfl) ?_ | refine gi_ldc ?_ | refine gi_add ?_ | refine gi_inc rfl ?_ | refine gi_sub (by omega) ?_ | refine gi_mul ?_ | refine go_nx rfl ?_)
  rcases harr with ⟨n1, n2, n3⟩ | ⟨n1, n2, f, n3, n4⟩
  · subst n1
    first | refine gz_eq (by omega) (fun c => ?_) (fun c => ?_) | refine gz_ne (by omega) (fun c => ?_) (fun c => ?_) | refine gz_le (by omega) (fun c => ?_) (fun c => ?_) | refine gz_gt (by omega) (fun c => ?_) (fun c => ?_) | refine gz_lt (by omega) (fun c => ?_) (fun c => ?_) | refine gz_ge (by omega) (fun c => ?_) (fun c => ?_)
    · omega
    repeat (first | refine gi_con ?_ | refine gi_bip (Nat.le_of_ble_eq_true rfl) ?_ | refine gi_sip (Nat.le_of_ble_eq_true rfl) ?_ | refine gi_ldc ?_ | refine gi_add ?_ | refine gi_inc rfl ?_ | refine gi_sub (by omega) ?_ | refine gi_mul ?_ | refine go_nx rfl ?_)
    refine gf_get _ h1 (by decide) rfl ?_
    refine go_nx (S' := [.ref ed, .ref ed]) (h' := h) (by
      show mm_nx _ (E.2.1 0 :: [.ref ed]) h = _
      rw [n3]) ?_
    refine go_br (c := decide ((some ed : Option Nat) = some ed)) rfl (fun _ => ?_) (fun c => absurd rfl (of_decide_eq_false c))
    repeat (first | refine gi_con ?_ | refine gi_bip (Nat.le_of_ble_eq_true rfl) ?_ | refine gi_sip (Nat.le_of_ble_eq_true rfl) ?_ | refine gi_ldc ?_ | refine gi_add ?_ | refine gi_inc rfl ?_ | refine gi_sub (by omega) ?_ | refine gi_mul ?_ | refine go_nx rfl ?_)
    refine go_step ?_
    refine g_call (k := 45) rfl (by omega) (Nat.le_of_ble_eq_true rfl) rfl ?_
    refine sp_max (by omega) (by omega) ?_
    rw [show max 10 (l.length + 1) = 10 by omega]
    refine gc_newA (by omega) rfl ?_
    have h1n : (mm_new h 10 (.inl (3, 10, .inr (.inr (.inr (.inr fun _ => none)))))).2.2 a = some (.inr (3, [.ref ed, .int (nI l.length), .int mc])) := by rw [hn_ne (by omega)]; exact h1
    repeat (first | refine gi_con ?_ | refine gi_bip (Nat.le_of_ble_eq_true rfl) ?_ | refine gi_sip (Nat.le_of_ble_eq_true rfl) ?_ | refine gi_ldc ?_ | refine gi_add ?_ | refine gi_inc rfl ?_ | refine gi_sub (by omega) ?_ | refine gi_mul ?_ | refine go_nx rfl ?_)
    refine gc_put (fs' := [.ref h.1, .int (nI l.length), .int mc]) h1n rfl (Nat.le_of_ble_eq_true rfl) rfl rfl ?_
    refine go_rt rfl ?_
    repeat (first | refine gi_con ?_ | refine gi_bip (Nat.le_of_ble_eq_true rfl) ?_ | refine gi_sip (Nat.le_of_ble_eq_true rfl) ?_ | refine gi_ldc ?_ | refine gi_add ?_ | refine gi_inc rfl ?_ | refine gi_sub (by omega) ?_ | refine gi_mul ?_ | refine go_nx rfl ?_)
    refine go_rt rfl ?_
    exact key (fun _ => none) (fun k hk => by omega)
  · first | refine gz_eq (by omega) (fun c => ?_) (fun c => ?_) | refine gz_ne (by omega) (fun c => ?_) (fun c => ?_) | refine gz_le (by omega) (fun c => ?_) (fun c => ?_) | refine gz_gt (by omega) (fun c => ?_) (fun c => ?_) | refine gz_lt (by omega) (fun c => ?_) (fun c => ?_) | refine gz_ge (by omega) (fun c => ?_) (fun c => ?_)
    · repeat (first | refine gi_con ?_ | refine gi_bip (Nat.le_of_ble_eq_true rfl) ?_ | refine gi_sip (Nat.le_of_ble_eq_true rfl) ?_ | refine gi_ldc ?_ | refine gi_add ?_ | refine gi_inc rfl ?_ | refine gi_sub (by omega) ?_ | refine gi_mul ?_ | refine go_nx rfl ?_)
      rw [show nI N >>> (nI 1 &&& 31) = nI (N / 2) from pk_shrN (by omega) _ 1 (by decide)]
      refine go_step ?_
      refine g_call (k := 44) rfl (by omega) (Nat.le_of_ble_eq_true rfl) rfl ?_
      rw [show l.length + 1 - N = 1 by omega]
      refine sp_newLength (by omega) (by omega) (by omega) ?_
      rw [show N + max 1 (N / 2) = N + N / 2 by omega]
      repeat (first | refine gi_con ?_ | refine gi_bip (Nat.le_of_ble_eq_true rfl) ?_ | refine gi_sip (Nat.le_of_ble_eq_true rfl) ?_ | refine gi_ldc ?_ | refine gi_add ?_ | refine gi_inc rfl ?_ | refine gi_sub (by omega) ?_ | refine gi_mul ?_ | refine go_nx rfl ?_)
      refine gf_get _ h1 (by decide) rfl ?_
      repeat (first | refine gi_con ?_ | refine gi_bip (Nat.le_of_ble_eq_true rfl) ?_ | refine gi_sip (Nat.le_of_ble_eq_true rfl) ?_ | refine gi_ldc ?_ | refine gi_add ?_ | refine gi_inc rfl ?_ | refine gi_sub (by omega) ?_ | refine gi_mul ?_ | refine go_nx rfl ?_)
      refine go_step ?_
      refine g_call (k := 46) rfl (by omega) (Nat.le_of_ble_eq_true rfl) rfl ?_
      refine sp_copyOf (by omega) hE hk n3 (by omega) (by omega) ?_
      have h1n : (mm_new h (N + N / 2) (aCell 3 (N + N / 2) (va_cpy f (fun _ => none) 0 0 N))).2.2 a = some (.inr (3, [.ref ed, .int (nI l.length), .int mc])) := by rw [hn_ne (by omega)]; exact h1
      repeat (first | refine gi_con ?_ | refine gi_bip (Nat.le_of_ble_eq_true rfl) ?_ | refine gi_sip (Nat.le_of_ble_eq_true rfl) ?_ | refine gi_ldc ?_ | refine gi_add ?_ | refine gi_inc rfl ?_ | refine gi_sub (by omega) ?_ | refine gi_mul ?_ | refine go_nx rfl ?_)
      refine gc_put (fs' := [.ref h.1, .int (nI l.length), .int mc]) h1n rfl (Nat.le_of_ble_eq_true rfl) rfl rfl ?_
      refine go_rt rfl ?_
      repeat (first | refine gi_con ?_ | refine gi_bip (Nat.le_of_ble_eq_true rfl) ?_ | refine gi_sip (Nat.le_of_ble_eq_true rfl) ?_ | refine gi_ldc ?_ | refine gi_add ?_ | refine gi_inc rfl ?_ | refine gi_sub (by omega) ?_ | refine gi_mul ?_ | refine go_nx rfl ?_)
      refine go_rt rfl ?_
      have := key (va_cpy f (fun _ => none) 0 0 N) (fun k hk => by
        unfold va_cpy
        rw [if_pos (by omega), show 0 + (k - 0) = k by omega]
        exact n4 k hk)
      unfold aGr at this
      rw [if_neg (by omega)] at this
      exact this
    · omega
end A
