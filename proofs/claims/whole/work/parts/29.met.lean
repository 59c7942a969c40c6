def mm_Wst (l : Launch) (f : Nat) : Prop := ∀ (p : Program) (e : Env) (R : Room) (s : State) (mth : MethodId) (args : Array Value) (below : List Frame) (meth : Method) (c : Code) (Q : State → Prop) (E : mmE) (D : va_G) (dA : Nat → ClassId) (m d : Nat) (is : List mmI) (L S : List Value) (h : mmH) (r : Option Value) (hF : mmH) (H : Heap) (ls : Array Slot) (locs : List Loc) (z0 z1 : Nat),
  mm_cx E D dA p s mth args meth c m → mm_okL m is = true → mm_run E f d m is L S h = some (r, hF) → d + 1 ≤ R.frames → 60 * d + 60 ≤ R.locals → hF.1 ≤ z0 + R.cells → hF.2.1 ≤ z1 + R.slots → z0 ≤ h.1 → z1 ≤ h.2.1 → mm_rel E D dA h H → va_S (mm_A E) s.heap H locs → mm_loc L ls → L.length = mm_maxL m →
  (∀ (H1 : Heap) (locs1 : List Loc) (pc : Nat) (ls1 : Array Slot), mm_rel E D dA hF H1 → va_S (mm_A E) s.heap H1 locs1 → mm_rd m pc r → W p l e R s mth args below meth c H1 locs1 (hF.1 - z0) (hF.2.1 - z1) Q (F0 mth pc ls1 r.toList)) →
  W p l e R s mth args below meth c H locs (h.1 - z0) (h.2.1 - z1) Q (F0 mth (mm_pcH is) ls S)
/-- the contract of a method out of a run of it -/
theorem mm_met {l : Launch} {f : Nat} (ih : mm_Wst l f) {E : mmE} {D : va_G} {dA : Nat → ClassId} {d k : Nat} {as : List Value} {h h' : mmH} {r : Option Value} (hk : k < 171) (hle : (mm_lay as).length ≤ mm_maxL k) (hrun : mm_run E f d k (mm_blk k 0) (mm_ent (mm_maxL k) as) [] h = some (r, h')) :
    Met l (mm_y k) (mm_ws k) (mm_rm d (h'.1 - h.1) (h'.2.1 - h.2.1)) (mm_Pc E D dA h as) (mm_Qc E D dA r h') (h'.1 - h.1) (h'.2.1 - h.2.1) (mm_A E) := by
  have hmono := mm_mono _ _ _ _ _ _ _ _ _ hrun
  refine va_MetF (cc := mm_by k) (maxL := mm_maxL k) (ret := mm_re k) (mm_plain k hk) rfl ?_
  intro p e s mth args below meth c s₁ B hml hv
  obtain ⟨rfl, hrel, hK, hE⟩ := hv
  have hts0 := atoms_spec (ws := mm_ws k) B.pre
  have cx : mm_cx E D dA p s mth as.toArray meth c k := ⟨B.exec, B.bytes, B.returns, hml, findClass_of_methodNamed B.named, fun w hw => hts0 w (List.mem_cons_of_mem _ hw), B.notSynchronized, fun hn => (name_of_methodNamed B.named B.method).1.trans hn, hK, hE⟩
  have hpc : mm_pcH (mm_blk k 0) = 0 := by
    have h0 : ∀ k, k < 171 → mm_pcH (mm_blk k 0) = 0 := by decide +kernel
    exact h0 k hk
  rw [lg_entry_eq, ← hpc]
  have hW := ih p e (mm_rm d (h'.1 - h.1) (h'.2.1 - h.2.1)) s mth as.toArray below meth c (MQ below (mm_Qc E D dA r h') as.toArray s (h'.1 - h.1) (h'.2.1 - h.2.1) (mm_A E)) E D dA k d (mm_blk k 0) (mm_ent (mm_maxL k) as) [] h r h' s.heap _ [] h.1 h.2.1 cx (mm_okB k 0) hrun (Nat.le_refl _) (Nat.le_refl _) (by show h'.1 ≤ h.1 + (h'.1 - h.1); omega) (by show h'.2.1 ≤ h.2.1 + (h'.2.1 - h.2.1); omega) (Nat.le_refl _) (Nat.le_refl _) hrel va_S.rf (mm_ent_loc hle) (mm_ent_len hle) ?_
  · rw [Nat.sub_self, Nat.sub_self] at hW
    exact hW
  · intro H1 locs1 pc ls1 hr1 hS1 hrd
    have hq : ∀ t : State, t.heap = H1 → s.WarmedH t.vm → mm_Qc E D dA r h' as.toArray s (.returned r) t := fun t ht _ => ⟨rfl, by rw [ht]; exact hr1, by rw [ht]; exact hS1.1, fun q g1 g2 => by rw [ht]; exact hS1.2.1 q g1 g2⟩
    match r, hq, hrd with
    | none, hq, hrd => exact W.vret B.exec B.bytes (B.returns.trans hrd.2) hq hS1.2.2 hrd.1
    | some (.int v), hq, hrd =>
      obtain ⟨hd, ty, hty, hn⟩ := hrd
      exact W.zret B.exec B.bytes (B.returns.trans hty) hn hq hS1.2.2 hd
    | some (.long v), hq, hrd => exact W.lret B.exec B.bytes (B.returns.trans hrd.2) hq hS1.2.2 hrd.1
    | some .null, hq, hrd =>
      obtain ⟨hd, ⟨rt, hrt, hk2⟩, hv⟩ := hrd
      exact W.aret B.exec B.bytes (B.returns.trans hrt) hk2 hv hq hS1.2.2 hd
    | some (.ref a), hq, hrd =>
      obtain ⟨hd, ⟨rt, hrt, hk2⟩, hv⟩ := hrd
      exact W.aret B.exec B.bytes (B.returns.trans hrt) hk2 hv hq hS1.2.2 hd
    | some (.float b), _, hrd => obtain ⟨-, -, h1 | ⟨a, h1⟩⟩ := hrd <;> cases h1
    | some (.double b), _, hrd => obtain ⟨-, -, h1 | ⟨a, h1⟩⟩ := hrd <;> cases h1
    | some (.retAddr b), _, hrd => obtain ⟨-, -, h1 | ⟨a, h1⟩⟩ := hrd <;> cases h1
