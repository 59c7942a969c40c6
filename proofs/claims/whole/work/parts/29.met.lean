def mm_Wst (l : Launch) (f : Nat) : Prop := ∀ (p : Program) (e : Env) (R : Room) (s : State) (mth : MethodId) (args : Array Value) (below : List Frame) (meth : Method) (c : Code) (Q : State → Prop) (E : mmE) (D : va_G) (dA : Nat → ClassId) (m d : Nat) (is : List mmI) (L S : List Value) (h : mmH) (r : Option Value) (hF : mmH) (H : Heap) (ls : Array Slot) (locs : List Loc) (z0 z1 : Nat),
  mm_cx E D dA p s mth args meth c m → mm_okL m is = true → mm_run E f d m is L S h = some (r, hF) → d + 1 ≤ R.frames → 60 * d + 60 ≤ R.locals → hF.1 ≤ z0 + R.cells → hF.2.1 ≤ z1 + R.slots → z0 ≤ h.1 → z1 ≤ h.2.1 → mm_rel E D dA h H → va_S (mm_A E) s.heap H locs → mm_loc L ls → L.length = mm_maxL m →
  (∀ (H1 : Heap) (locs1 : List Loc) (pc : Nat) (ls1 : Array Slot), mm_rel E D dA hF H1 → va_S (mm_A E) s.heap H1 locs1 → mm_rd m pc r → W p l e R s mth args below meth c H1 locs1 (hF.1 - z0) (hF.2.1 - z1) Q (F0 mth pc ls1 r.toList)) →
  W p l e R s mth args below meth c H locs (h.1 - z0) (h.2.1 - z1) Q (F0 mth (mm_pcH is) ls S)
/-- the contract of a method out of a run of it -/
theorem mm_met {l : Launch} {f : Nat} (ih : mm_Wst l f) {E : mmE} {D : va_G} {dA : Nat → ClassId} {d k : Nat} {as : List Value} {h h' : mmH} {r : Option Value} (hk : k < 173) (hle : (mm_lay as).length ≤ mm_maxL k) (hrun : mm_run E f d k (mm_blk k 0) (mm_ent (mm_maxL k) as) [] h = some (r, h')) :
    Met l (mm_y k) (mm_ws k) (mm_rm d (h'.1 - h.1) (h'.2.1 - h.2.1)) (mm_Pc E D dA h as) (mm_Qc E D dA r h') (h'.1 - h.1) (h'.2.1 - h.2.1) (mm_A E) := by
  have hmono := mm_mono _ _ _ _ _ _ _ _ _ hrun
  refine va_MetF (cc := mm_by k) (maxL := mm_maxL k) (ret := mm_re k) (mm_plain k hk) rfl ?_
  intro p e s mth args below meth c s₁ B hml hv
  obtain ⟨rfl, hrel, hK, hE⟩ := hv
  have hts0 := atoms_spec (ws := mm_ws k) B.pre
  have cx : mm_cx E D dA p s mth as.toArray meth c k := ⟨B.exec, B.bytes, B.returns, hml, findClass_of_methodNamed B.named, fun w hw => hts0 w (List.mem_cons_of_mem _ hw), B.notSynchronized, fun hn => (name_of_methodNamed B.named B.method).1.trans hn, hK, hE⟩
  have hpc : mm_pcH (mm_blk k 0) = 0 := by
    have h0 : ∀ k, k < 173 → mm_pcH (mm_blk k 0) = 0 := by decide +kernel
    exact h0 k hk
  rw [lg_entry_eq]
  have hW := ih p e (mm_rm d (h'.1 - h.1) (h'.2.1 - h.2.1)) s mth as.toArray below meth c (MQ below (mm_Qc E D dA r h') as.toArray s (h'.1 - h.1) (h'.2.1 - h.2.1) (mm_A E)) E D dA k d (mm_blk k 0) (mm_ent (mm_maxL k) as) [] h r h' s.heap _ [] h.1 h.2.1 cx (mm_okB k 0) hrun (Nat.le_refl _) (Nat.le_refl _) (by show h'.1 ≤ h.1 + (h'.1 - h.1); omega) (by show h'.2.1 ≤ h.2.1 + (h'.2.1 - h.2.1); omega) (Nat.le_refl _) (Nat.le_refl _) hrel va_S.rf (mm_ent_loc hle) (mm_ent_len hle) ?_
  · rw [Nat.sub_self, Nat.sub_self, hpc] at hW
    exact hW
  · intro H1 locs1 pc ls1 hr1 hS1 hrd
    have hq : ∀ t : State, t.heap = H1 → s.WarmedH t.vm → mm_Qc E D dA r h' as.toArray s (.returned r) t := fun t ht _ => ⟨rfl, by rw [ht]; exact hr1, by rw [ht]; exact hS1.1, fun q g1 g2 => by rw [ht]; exact hS1.2.1 q g1 g2⟩
    match r, hq, hrd with
    | none, hq, hrd => exact W.vret B.exec B.bytes (B.returns.trans hrd.2) hq hS1.2.2 hrd.1
    | some (.int v), hq, hrd =>
      obtain ⟨hd, ty, hty, hn⟩ := hrd
      exact W.zret B.exec B.bytes (B.returns.trans hty) hn hq hS1.2.2 hd
    | some (.long v), hq, hrd => exact W.lret B.exec B.bytes (B.returns.trans hrd.2) hq hS1.2.2 hrd.1
    | some .null, hq, hrd =>
      obtain ⟨hd, ⟨rt, hrt, hk2⟩, hv⟩ := hrd
      exact W.aret B.exec B.bytes (B.returns.trans hrt) hk2 hv hq hS1.2.2 hd
    | some (.ref a), hq, hrd =>
      obtain ⟨hd, ⟨rt, hrt, hk2⟩, hv⟩ := hrd
      exact W.aret B.exec B.bytes (B.returns.trans hrt) hk2 hv hq hS1.2.2 hd
    | some (.float b), _, hrd => obtain ⟨-, -, h1 | ⟨a, h1⟩⟩ := hrd <;> cases h1
    | some (.double b), _, hrd => obtain ⟨-, -, h1 | ⟨a, h1⟩⟩ := hrd <;> cases h1
    | some (.retAddr b), _, hrd => obtain ⟨-, -, h1 | ⟨a, h1⟩⟩ := hrd <;> cases h1
theorem mm_cat1 {v : Value} (h : ¬ mm_wide v = true) : v.category = 1 := by
  rcases lv_cat v with q | q
  · exact q
  · exact absurd ((mm_wide_cat v).mpr q) h
theorem mm_orefS {v : Value} {x : Option Nat} (h : mm_oref v = some x) : v = va_rf x := by
  cases v <;> first | (cases h; rfl) | cases h
theorem mm_callS {E : mmE} {f d m pc : Nat} {ins : Instr} {is : List mmI} {L S : List Value} {h : mmH} {ex : List Nat} {r : Option Value} {hF : mmH} (hs : mm_step E L S h ins ex = mm_call E L S h ex) (hrun : mm_run E (f + 1) d m ((pc, ins, ex) :: is) L S h = some (r, hF)) :
    mm_k1 ex ≤ S.length ∧ mm_sum (S.drop (mm_k1 ex)) ≤ mm_lim (mm_k2 ex) ∧ (mm_k2 ex = 0 ∨ mm_rcv E h (mm_k2 ex) (S[mm_k1 ex - 1]?) = true) ∧ ∃ d', d = d' + 1 ∧ (mm_lay (S.take (mm_k1 ex)).reverse).length ≤ mm_maxL (mm_k0 ex) ∧ (mm_iss.getD (mm_k0 ex) true || mm_hr (S.take (mm_k1 ex)).reverse) = true ∧ ∃ w h', mm_run E f d' (mm_k0 ex) (mm_blk (mm_k0 ex) 0) (mm_ent (mm_maxL (mm_k0 ex)) (S.take (mm_k1 ex)).reverse) [] h = some (w, h') ∧ mm_run E f d m is L (w.toList ++ S.drop (mm_k1 ex)) h' = some (r, hF) := by
  rw [mm_run] at hrun
  dsimp only at hrun
  rw [hs] at hrun
  unfold mm_call at hrun
  obtain ⟨⟨c1, c2, c3⟩, hrun⟩ := inv_if hrun
  refine ⟨c1, c2, c3, ?_⟩
  cases d with
  | zero => cases hrun
  | succ d' =>
    have hrun : (if (mm_lay (S.take (mm_k1 ex)).reverse).length ≤ mm_maxL (mm_k0 ex) ∧ (mm_iss.getD (mm_k0 ex) true || mm_hr (S.take (mm_k1 ex)).reverse) = true then (match mm_run E f d' (mm_k0 ex) (mm_blk (mm_k0 ex) 0) (mm_ent (mm_maxL (mm_k0 ex)) (S.take (mm_k1 ex)).reverse) [] h with
      | some (v, h') => mm_run E f (d' + 1) m is L (v.toList ++ S.drop (mm_k1 ex)) h'
      | none => none) else none) = some (r, hF) := hrun
    split at hrun
    · rename_i hc
      split at hrun
      · rename_i w h' hw
        exact ⟨d', rfl, hc.1, hc.2, w, h', hw, hrun⟩
      · cases hrun
    · cases hrun
def mm_isN (w : Cond) : Bool := match w with
  | .methodLinkNest _ _ _ _ => true
  | _ => false
theorem mm_nestAll : lw_tbl.all (fun w => !mm_isN w || decide (w ∈ mm_nest)) = true := by decide +kernel
theorem mm_cwS {own : String} {idx : Nat} {ex : List Nat} (h : mm_cw own idx ex = true) : mm_k0 ex < 173 ∧ (Cond.methodLink own idx (mm_y (mm_k0 ex)) ∈ lw_tbl ∨ Cond.methodLinkNest own idx (mm_y (mm_k0 ex)) "BoundsPlanner" ∈ mm_nest) ∧ Cond.initialized (mm_y (mm_k0 ex)).cls ∈ lw_tbl := by
  unfold mm_cw at h
  simp only [Bool.and_eq_true, decide_eq_true_eq] at h
  obtain ⟨⟨h1, h2⟩, h3⟩ := h
  refine ⟨h1, ?_, mm_wdm h3⟩
  by_cases h4 : ex.getD 4 0 = 1
  · rw [if_pos h4] at h2
    right
    have := List.all_eq_true.mp mm_nestAll _ (mm_wdm h2)
    simpa [mm_isN] using this
  · rw [if_neg h4] at h2
    exact Or.inl (mm_wdm h2)
theorem mm_cwS0 {own : String} {idx : Nat} {ex : List Nat} (h : mm_cw own idx ex = true) (h4 : ex.getD 4 0 = 0) : Cond.methodLink own idx (mm_y (mm_k0 ex)) ∈ lw_tbl := by
  unfold mm_cw at h
  simp only [Bool.and_eq_true, decide_eq_true_eq] at h
  obtain ⟨⟨h1, h2⟩, h3⟩ := h
  rw [if_neg (by omega)] at h2
  exact mm_wdm h2
theorem mm_rcvS {E : mmE} {h : mmH} {rk : Nat} {v : Option Value} (hv : mm_rcv E h rk v = true) : ∃ b, v = some (.ref b) := by
  cases v with
  | none => cases hv
  | some w => cases w <;> first | exact ⟨_, rfl⟩ | cases hv
theorem mm_spl {S : List Value} {k b : Nat} (h0 : 0 < k) (h1 : k ≤ S.length) (h2 : S[k - 1]? = some (.ref b)) : ∃ as, (S.take k).reverse = .ref b :: as ∧ as.length = k - 1 ∧ S = as.reverse ++ .ref b :: S.drop k := by
  obtain ⟨j, rfl⟩ : ∃ j, k = j + 1 := ⟨k - 1, by omega⟩
  rw [Nat.add_sub_cancel] at h2 ⊢
  have e1 : S.take (j + 1) = S.take j ++ [.ref b] := by
    rw [List.take_succ, h2]
    rfl
  refine ⟨(S.take j).reverse, by rw [e1, List.reverse_append]; rfl, by rw [List.length_reverse, List.length_take]; omega, ?_⟩
  rw [List.reverse_reverse]
  have e2 := List.take_append_drop (j + 1) S
  rw [e1, List.append_assoc] at e2
  exact e2.symm
theorem mm_issI : ∀ k, k < 173 → (mm_y k).name = "<init>" → mm_iss.getD k true = false := by decide +kernel
theorem mm_hrS {as : List Value} (h : mm_hr as = true) : ∃ b bs, as = .ref b :: bs := by
  cases as with
  | nil => cases h
  | cons w ws => cases w <;> first | exact ⟨_, _, rfl⟩ | cases h
theorem mm_hrT {S : List Value} {k b : Nat} {bs : List Value} (h0 : 0 < k) (h1 : k ≤ S.length) (h2 : (S.take k).reverse = .ref b :: bs) : S[k - 1]? = some (.ref b) := by
  obtain ⟨j, rfl⟩ : ∃ j, k = j + 1 := ⟨k - 1, by omega⟩
  rw [Nat.add_sub_cancel]
  have hj : j < S.length := by omega
  rw [List.take_succ, List.getElem?_eq_getElem hj] at h2
  rw [List.getElem?_eq_getElem hj]
  simp only [Option.toList_some, List.reverse_append, List.reverse_cons, List.reverse_nil, List.nil_append, List.singleton_append, List.cons.injEq] at h2
  rw [h2.1]
