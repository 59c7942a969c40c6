/-- a branch that is known -/
theorem gff {c : Bool} {A B : Prop} (hc : c = false) (hb : B) : (c = true → A) ∧ (c = false → B) := ⟨fun q => absurd (q.symm.trans hc) (by decide), fun _ => hb⟩
theorem gtt {c : Bool} {A B : Prop} (hc : c = true) (ha : A) : (c = true → A) ∧ (c = false → B) := ⟨fun _ => ha, fun q => absurd (hc.symm.trans q) (by decide)⟩
section GO
variable {E : mmE} {d m idx : Nat} {is : List mmI} {L S r : List Value} {h : mmH} {Q : Option Value → mmH → Prop} {ex : List Nat}
theorem g_callV (h0 : mm_k0 ex ≠ 1001) (h0' : mm_k0 ex ≠ 1002) (h1 : mm_k1 ex ≤ S.length) (h2 : mm_sum (S.drop (mm_k1 ex)) ≤ mm_lim (mm_k2 ex)) (hrc : mm_rcv E h (mm_k2 ex) (S[mm_k1 ex - 1]?) = true) (hd : 1 ≤ d) (hl : (mm_lay (S.take (mm_k1 ex)).reverse).length ≤ mm_maxL (mm_k0 ex)) (hi : (mm_iss.getD (mm_k0 ex) true || mm_hr (S.take (mm_k1 ex)).reverse) = true)
    (hg : mm_Go E (d - 1) (mm_k0 ex) (mm_blk (mm_k0 ex) 0) (mm_ent (mm_maxL (mm_k0 ex)) (S.take (mm_k1 ex)).reverse) [] h (fun v h' => mm_Go E d m is L (v.toList ++ S.drop (mm_k1 ex)) h' Q)) : mm_goO E d m is L h Q (mm_step E L S h (.invokevirtual idx) ex) := by
  refine g_call (k := mm_k0 ex) (as := (S.take (mm_k1 ex)).reverse) (rr := S.drop (mm_k1 ex)) ?_ hd hl hi hg
  show (if mm_k0 ex = 1001 then _ else if mm_k0 ex = 1002 then _ else mm_call E L S h ex) = _
  rw [if_neg h0, if_neg h0']
  unfold mm_call
  rw [if_pos ⟨h1, h2, Or.inr hrc⟩]
theorem g_gets {a : Nat} {f : Nat → Value} (hf : E.2.2 1 a = some (.inr f)) (ha : a < E.1) (h99 : mm_k0 ex = 99) (hg : mm_Go E d m is L (f (mm_k1 ex) :: r) h Q) : mm_goO E d m is L h Q (mm_step E L (.ref a :: r) h (.getfield idx) ex) := by
  have e : mm_step E L (.ref a :: r) h (.getfield idx) ex = mm_nx L (f (mm_k1 ex) :: r) h := by
    show (if mm_k0 ex = 99 then _ else _) = _
    rw [if_pos h99, hf]
    exact if_pos ha
  rw [e]
  exact hg
end GO
/-- nothing of the small machine stands below its beginning -/
def sOld (E : mmE) (h : mmH) : Prop := ∀ a, a < E.1 → h.2.2 a = none
/-- a String of n characters T at a -/
def strAt (E : mmE) (a n : Nat) (T : Nat → Nat) : Prop := E.2.1 1 = .int 1 ∧ (E.2.1 2 = .null ∨ ∃ z, E.2.1 2 = .ref z) ∧ a < E.1 ∧ n < 1000 ∧ ∃ f v g, E.2.2 1 a = some (.inr f) ∧ f 0 = .ref v ∧ f 1 = .int 0 ∧ v < E.1 ∧ E.2.2 0 v = some (.inl (0, n, g)) ∧ ∀ j, j < n → g j &&& 255 = nI (T j)
theorem str_rcv {E : mmE} {a n : Nat} {T : Nat → Nat} {h : mmH} (hs : strAt E a n T) : mm_rcv E h 100 (some (.ref a)) = true := by
  obtain ⟨-, -, ha, -, f, v, g, hf, -⟩ := hs
  unfold mm_rcv
  dsimp only
  rw [if_pos rfl, hf]
  exact decide_eq_true ha
theorem sp_coder {E : mmE} {d a n : Nat} {h : mmH} {T : Nat → Nat} {Q : Option Value → mmH → Prop} (hs : strAt E a n T) (hq : Q (some (.int 0)) h) : mm_Go E d 30 (mm_blk 30 0) [.ref a] [] h Q := by
  obtain ⟨hc, -, ha, -, f, v, g, hf, hf0, hf1, -⟩ := hs
  refine go_step ?_
  show mm_Go E d 30 _ [.ref a] [E.2.1 1] h Q
  rw [hc]
  repeat refine go_step ?_
  refine gff rfl ?_
  repeat refine go_step ?_
  refine g_gets hf ha rfl ?_
  show mm_Go E d 30 _ [.ref a] [f 1] h Q
  rw [hf1]
  repeat refine go_step ?_
  refine gjp ?_
  repeat refine go_step ?_
  exact gjp hq
theorem sp_latin {E : mmE} {d a n : Nat} {h : mmH} {T : Nat → Nat} {Q : Option Value → mmH → Prop} (hs : strAt E a n T) (hq : Q (some (.int 1)) h) : mm_Go E d 32 (mm_blk 32 0) [.ref a] [] h Q := by
  obtain ⟨hc, -, ha, -, f, v, g, hf, hf0, hf1, -⟩ := hs
  refine go_step ?_
  show mm_Go E d 32 _ [.ref a] [E.2.1 1] h Q
  rw [hc]
  repeat refine go_step ?_
  refine gff rfl ?_
  repeat refine go_step ?_
  refine g_gets hf ha rfl ?_
  show mm_Go E d 32 _ [.ref a] [f 1] h Q
  rw [hf1]
  repeat refine go_step ?_
  refine gff rfl ?_
  repeat refine go_step ?_
  refine gjp ?_
  repeat refine go_step ?_
  exact gjp hq
theorem sp_slen {E : mmE} {d a n : Nat} {h : mmH} {T : Nat → Nat} {Q : Option Value → mmH → Prop} (hd : 1 ≤ d) (ho : sOld E h) (hs : strAt E a n T) (hq : Q (some (.int (nI n))) h) : mm_Go E d 29 (mm_blk 29 0) [.ref a] [] h Q := by
  have hs0 := hs
  obtain ⟨hc, -, ha, hn, f, v, g, hf, hf0, hf1, hv, hg, hT⟩ := hs
  repeat refine go_step ?_
  refine g_gets hf ha rfl ?_
  show mm_Go E d 29 _ [.ref a] [f 0] h Q
  rw [hf0]
  repeat refine go_step ?_
  refine g_alen (n := n) (by unfold mm_len; rw [ho v hv, hg]) ?_
  repeat refine go_step ?_
  refine g_callV (by decide) (by decide) (Nat.le_of_ble_eq_true rfl) (Nat.le_of_ble_eq_true rfl) (str_rcv hs0) hd (Nat.le_of_ble_eq_true rfl) rfl ?_
  refine sp_coder hs0 ?_
  repeat refine go_step ?_
  refine gjp ?_
  have e : Int32.ofNat n >>> ((0 : Int32) &&& 31) = nI n := sc_shr0 (by omega)
  rw [e]
  exact hq
theorem sp_pcheck {E : mmE} {d i n : Nat} {h : mmH} {w : Value} {Q : Option Value → mmH → Prop} (hi : i < n) (hn : n < 2 ^ 31) (hq : Q (some (.int (nI i))) h) : mm_Go E d 35 (mm_blk 35 0) [.int (nI i), .int (nI n), w] [] h Q := by
  repeat refine go_step ?_
  refine gif (fun c => absurd c (nI_pos (by omega))) (fun c => ?_)
  repeat refine go_step ?_
  refine gif (fun c => ?_) (fun c => absurd (nI_lt hi hn) c)
  repeat refine go_step ?_
  exact gjp hq
theorem sp_scheck {E : mmE} {d i n : Nat} {h : mmH} {Q : Option Value → mmH → Prop} (hd : 1 ≤ d) (hE : E.2.1 2 = .null ∨ ∃ z, E.2.1 2 = .ref z) (hi : i < n) (hn : n < 2 ^ 31) (hq : Q none h) : mm_Go E d 34 (mm_blk 34 0) [.int (nI i), .int (nI n)] [] h Q := by
  refine go_step ?_
  refine go_step ?_
  refine go_step ?_
  show mm_Go E d 34 _ _ (E.2.1 2 :: _) h Q
  rcases hE with hE | ⟨z, hE⟩
  · rw [hE]
    refine go_step ?_
    refine g_call (k := 35) rfl hd (Nat.le_of_ble_eq_true rfl) rfl ?_
    refine sp_pcheck hi hn ?_
    repeat refine go_step ?_
    exact gjp hq
  · rw [hE]
    refine go_step ?_
    refine g_call (k := 35) rfl hd (Nat.le_of_ble_eq_true rfl) rfl ?_
    refine sp_pcheck hi hn ?_
    repeat refine go_step ?_
    exact gjp hq
theorem sp_charAt {E : mmE} {d a n i : Nat} {h : mmH} {T : Nat → Nat} {Q : Option Value → mmH → Prop} (hd : 3 ≤ d) (ho : sOld E h) (hs : strAt E a n T) (hi : i < n) (hq : Q (some (.int (nI (T i)))) h) : mm_Go E d 31 (mm_blk 31 0) [.ref a, .int (nI i)] [] h Q := by
  have hs0 := hs
  obtain ⟨hc, hE2, ha, hn, f, v, g, hf, hf0, hf1, hv, hg, hT⟩ := hs
  repeat refine go_step ?_
  refine g_callV (by decide) (by decide) (Nat.le_of_ble_eq_true rfl) (Nat.le_of_ble_eq_true rfl) (str_rcv hs0) (by omega) (Nat.le_of_ble_eq_true rfl) rfl ?_
  refine sp_latin hs0 ?_
  repeat refine go_step ?_
  refine gff rfl ?_
  repeat refine go_step ?_
  refine g_gets hf ha rfl ?_
  show mm_Go E d 31 _ _ [f 0] h Q
  rw [hf0]
  repeat refine go_step ?_
  refine g_call (k := 33) rfl (by omega) (Nat.le_of_ble_eq_true rfl) rfl ?_
  repeat refine go_step ?_
  refine g_alen (n := n) (by unfold mm_len; rw [ho v hv, hg]) ?_
  repeat refine go_step ?_
  refine g_call (k := 34) rfl (by omega) (Nat.le_of_ble_eq_true rfl) rfl ?_
  refine sp_scheck (by omega) hE2 hi (by omega) ?_
  repeat refine go_step ?_
  refine g_bald (t := 0) (n := n) (f := g) (by unfold mm_aI; rw [ho v hv, hg]) (Or.inl rfl) (decide_eq_true (vp_in_nI hi (by omega))) ?_
  refine go_step ?_
  refine go_step ?_
  refine go_step ?_
  have e1 : (((g (nI i).toNatClampNeg) &&& (Int16.ofInt 255).toInt32).toUInt32 % 65536).toInt32 = nI (T i) := by
    rw [nI_clamp (by omega)]
    show ((g i &&& 255).toUInt32 % 65536).toInt32 = _
    rw [sc_c2, hT i hi]
  have e2 : mm_fit 5 (.int (nI (T i))) = true := by
    show decide (((nI (T i)).toUInt32 % 65536).toInt32 = nI (T i)) = true
    rw [← hT i hi, sc_c2]
    exact decide_eq_true rfl
  show mm_Go E _ 33 _ _ [.int (((g (nI i).toNatClampNeg) &&& (Int16.ofInt 255).toInt32).toUInt32 % 65536).toInt32] h _
  rw [e1]
  refine go_step ?_
  show mm_goO _ _ _ _ _ _ _ (if mm_fit 5 (.int (nI (T i))) = true then mm_rt _ else mm_bad)
  rw [if_pos e2]
  refine gjp ?_
  refine go_step ?_
  show mm_goO _ _ _ _ _ _ _ (if mm_fit 5 (.int (nI (T i))) = true then mm_rt _ else mm_bad)
  rw [if_pos e2]
  exact gjp hq
