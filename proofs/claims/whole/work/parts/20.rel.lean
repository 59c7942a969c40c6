def mm_cv (dA : Nat → ClassId) (c : mmC) : va_E := match c with
  | .inl (t, x) => .inl (dA t, x)
  | .inr o => .inr o
def mm_A (E : mmE) : Nat → Prop := fun q => E.1 ≤ q
def mm_tys (dA : Nat → ClassId) : List (ClassId × FieldType) := [(dA 0, mm_aty 0), (dA 1, mm_aty 1), (dA 2, mm_aty 2), (dA 3, mm_aty 3), (dA 4, mm_aty 4)]
/-- a cell's contents: bytes are bytes, references stand for objects that may stand there -/
def mm_cok (h : mmH) (c : mmC) : Prop := match c with
  | .inl (t, _, .inl f) => t < 3 ∧ (t = 0 → ∀ j, (f j).toInt8.toInt32 = f j)
  | .inl (t, _, .inr (.inr (.inr (.inr f)))) => (t = 3 ∨ t = 4) ∧ ∀ j y, f j = some y → mm_may h t y = true
  | .inl _ => False
  | .inr _ => True
def mm_sh (c : mmC) : Option Nat := match c with
  | .inl _ => none
  | .inr (ci, _) => some ci
/-- the heap holds the machine's cells -/
def mm_rel (E : mmE) (D : va_G) (dA : Nat → ClassId) (h : mmH) (H : Heap) : Prop := H.size = h.1 ∧ E.1 ≤ h.1 ∧ ∀ a c, h.2.2 a = some c → E.1 ≤ a ∧ va_at D mm_cls (a, mm_cv dA c) H ∧ mm_cok h c
def mm_nest : List Cond := [.methodLinkNest "BoundsPlanner" 74 ⟨"BoundsPlanner$Checker", "faultOfFilter", "(LBoundsPlanner$Node;I)I"⟩ "BoundsPlanner", .methodLinkNest "BoundsPlanner" 90 ⟨"BoundsPlanner$Filter", "<init>", "()V"⟩ "BoundsPlanner", .methodLinkNest "BoundsPlanner" 91 ⟨"BoundsPlanner$Filter", "gather", "(LBoundsPlanner$Node;I)V"⟩ "BoundsPlanner", .methodLinkNest "BoundsPlanner$Interval" 41 ⟨"BoundsPlanner$Order", "compare", "(LBoundsPlanner$Node;LBoundsPlanner$Node;I)I"⟩ "BoundsPlanner"]
def mm_old (E : mmE) (a : Nat) (z : mmZ) (U : State) (H : Heap) : Prop := match z with
  | .inl (t, n, f) => t ≤ 3 ∧ va_T (mm_aty t) a n (fun j => .int (f j)) (mm_A E) U H
  | .inr fs => va_O "java/lang/String" a (mm_A E) U H ∧ va_OF "java/lang/String" "value" "[B" (fs 0) a (mm_A E) U H ∧ va_OF "java/lang/String" "coder" "B" (fs 1) a (mm_A E) U H
/-- what the start gives beside the tables' good words -/
def mm_env (E : mmE) (U : State) (H : Heap) : Prop :=
  (∀ g, g < 3 → va_Z (mm_gs g).1 (mm_gs g).2.1 (mm_gs g).2.2 (E.2.1 g) (mm_A E) U H) ∧
  (∃ mi, E.2.1 3 = .ref mi ∧ va_Mi "[Ljava/lang/Object;" mi U) ∧
  (∀ i o x t, mm_sts[i]? = some (o, x, t) → ∃ a, E.2.1 (10 + i) = .ref a ∧ vk_R o x t a U) ∧
  (∀ g a z, E.2.2 g a = some z → a < E.1 ∧ mm_old E a z U H) ∧
  (∀ w ∈ mm_nest, va_Nw w U) ∧
  (∀ C D, Cond.castable C D ∈ lw_tbl → va_Nw (.castable C D) U) ∧
  va_Dc U ∧ va_AO "java/lang/Object" U ∧ va_AO "BoundsPlanner$Path" U
theorem mm_env.moved {E : mmE} {s U : State} {H H1 : Heap} (hW : s.WarmedH U.vm) (hk : ∀ a : Nat, a < H.size → ¬ mm_A E a → H1[a]? = H[a]?) (h : mm_env E s H) : mm_env E U H1 := by
  obtain ⟨h1, ⟨mi, h2, h2'⟩, h3, h4, h5, h6, h7, h8, h9⟩ := h
  have hal := hW.alike
  refine ⟨fun g hg => ((h1 g hg).moved hal).kept hk, ⟨mi, h2, h2'.moved hal⟩, fun i o x t hi => ?_, fun g a z hz => ⟨(h4 g a z hz).1, ?_⟩, fun w hw => ?_, fun C D hC => va_Nw.warmC hW (h6 C D hC), h7.moved hal, h8.moved hal, h9.moved hal⟩
  · obtain ⟨a, e1, e2⟩ := h3 i o x t hi
    exact ⟨a, e1, vk_R.warm hW e2⟩
  · have h := (h4 g a z hz).2
    match z, h with
    | .inl (t, n, f), h => exact ⟨h.1, (va_T.moved hal h.2).kept hk⟩
    | .inr fs, h => exact ⟨(va_O.moved hal h.1).kept hk, (va_OF.moved hal h.2.1).kept hk, (va_OF.moved hal h.2.2).kept hk⟩
  · have hN := h5 w hw
    simp only [mm_nest, List.mem_cons, List.not_mem_nil, or_false] at hw
    rcases hw with rfl | rfl | rfl | rfl <;> exact va_Nw.warmM hW hN
/-- the locals: a value that stands in the list stands there -/
def mm_loc (L : List Value) (ls : Array Slot) : Prop := ls.size = L.length ∧ lv_wf ls ∧ ∀ (i : Nat) (v : Value), L[i]? = some v → v ≠ mm_un → ls[i]? = some (Slot.val v)
theorem mm_cok.mono {h h' : mmH} {c : mmC} (hm : ∀ t y, mm_may h t y = true → mm_may h' t y = true) (hc : mm_cok h c) : mm_cok h' c := by
  match c, hc with
  | .inl (_, _, .inl _), hc => exact hc
  | .inl (_, _, .inr (.inl _)), hc => exact hc
  | .inl (_, _, .inr (.inr (.inl _))), hc => exact hc
  | .inl (_, _, .inr (.inr (.inr (.inl _)))), hc => exact hc
  | .inl (t, _, .inr (.inr (.inr (.inr f)))), hc => exact ⟨hc.1, fun j y hj => hm t y (hc.2 j y hj)⟩
  | .inr _, _ => trivial
theorem mm_may_sh {h : mmH} {t y : Nat} : mm_may h t y = true ↔ ∃ c ci, h.2.2 y = some c ∧ mm_sh c = some ci ∧ ((t == 3 && ci != 3) || (t == 4 && ci == 1)) = true := by
  unfold mm_may
  cases hy : h.2.2 y with
  | none => simp
  | some c =>
    match c with
    | .inl x => simp [mm_sh]
    | .inr (ci, fs) => simp [mm_sh]
theorem mm_rel.kept {E : mmE} {D : va_G} {dA : Nat → ClassId} {h : mmH} {H H1 : Heap} (hr : mm_rel E D dA h H) (hz : H1.size = H.size) (hq : ∀ q : Nat, H1[q]? = H[q]?) : mm_rel E D dA h H1 := ⟨hz.trans hr.1, hr.2.1, fun a c hc => ⟨(hr.2.2 a c hc).1, (hr.2.2 a c hc).2.1.kept (hq a), (hr.2.2 a c hc).2.2⟩⟩
theorem mm_rel.lt {E : mmE} {D : va_G} {dA : Nat → ClassId} {h : mmH} {H : Heap} (hr : mm_rel E D dA h H) {a : Nat} {c : mmC} (hc : h.2.2 a = some c) : a < h.1 := by
  rw [← hr.1]; exact (hr.2.2 a c hc).2.1.lt
theorem mm_rel.set {E : mmE} {D : va_G} {dA : Nat → ClassId} {h : mmH} {H H1 : Heap} (hr : mm_rel E D dA h H) {a : Nat} {c0 c : mmC} (ha : h.2.2 a = some c0) (hsh : mm_sh c = mm_sh c0) (hok : mm_cok h c) (hz : H1.size = H.size) (hq : ∀ q : Nat, q ≠ a → H1[q]? = H[q]?) (hn : va_at D mm_cls (a, mm_cv dA c) H1) : mm_rel E D dA (mm_set h a c) H1 := by
  have hm : ∀ t y, mm_may h t y = true → mm_may (mm_set h a c) t y = true := by
    intro t y hy
    obtain ⟨c1, ci, e1, e2, e3⟩ := mm_may_sh.mp hy
    refine mm_may_sh.mpr ?_
    by_cases he : y = a
    · subst he
      cases e1.symm.trans ha
      exact ⟨c, ci, va_up_self _ _ _, hsh.trans e2, e3⟩
    · exact ⟨c1, ci, (va_up_ne _ _ he).trans e1, e2, e3⟩
  refine ⟨hz.trans hr.1, hr.2.1, fun b c' hb => ?_⟩
  by_cases he : b = a
  · subst he
    have hb' : va_up h.2.2 b (some c) b = some c' := hb
    rw [va_up_self] at hb'
    cases hb'
    exact ⟨(hr.2.2 b c0 ha).1, hn, hok.mono hm⟩
  · have hb' : va_up h.2.2 a (some c) b = some c' := hb
    rw [va_up_ne _ _ he] at hb'
    exact ⟨(hr.2.2 b c' hb').1, (hr.2.2 b c' hb').2.1.kept (hq b he), (hr.2.2 b c' hb').2.2.mono hm⟩
theorem mm_rel.new {E : mmE} {D : va_G} {dA : Nat → ClassId} {h : mmH} {H H1 : Heap} (hr : mm_rel E D dA h H) {n : Nat} {c : mmC} (hok : mm_cok h c) (hz : H1.size = H.size + 1) (hq : ∀ q : Nat, q < H.size → H1[q]? = H[q]?) (hn : va_at D mm_cls (h.1, mm_cv dA c) H1) : mm_rel E D dA (mm_new h n c) H1 := by
  have hm : ∀ t y, mm_may h t y = true → mm_may (mm_new h n c) t y = true := by
    intro t y hy
    obtain ⟨c1, ci, e1, e2, e3⟩ := mm_may_sh.mp hy
    have he : y ≠ h.1 := Nat.ne_of_lt (hr.lt e1)
    exact mm_may_sh.mpr ⟨c1, ci, (va_up_ne _ _ he).trans e1, e2, e3⟩
  refine ⟨by rw [hz, hr.1]; rfl, Nat.le_succ_of_le hr.2.1, fun b c' hb => ?_⟩
  by_cases he : b = h.1
  · subst he
    have hb' : va_up h.2.2 h.1 (some c) h.1 = some c' := hb
    rw [va_up_self] at hb'
    cases hb'
    exact ⟨hr.2.1, hn, hok.mono hm⟩
  · have hb' : va_up h.2.2 h.1 (some c) b = some c' := hb
    rw [va_up_ne _ _ he] at hb'
    exact ⟨(hr.2.2 b c' hb').1, (hr.2.2 b c' hb').2.1.kept (hq b (by rw [hr.1]; exact hr.lt hb')), (hr.2.2 b c' hb').2.2.mono hm⟩
theorem mm_cok.lt {h : mmH} {t n : Nat} {y : (Nat → Int32) ⊕ (Nat → Int64) ⊕ (Nat → UInt32) ⊕ (Nat → UInt64) ⊕ (Nat → Option Nat)} (hc : mm_cok h (.inl (t, n, y))) : t < 5 := by
  match y, hc with
  | .inl _, hc => have := hc.1; omega
  | .inr (.inl _), hc => exact hc.elim
  | .inr (.inr (.inl _)), hc => exact hc.elim
  | .inr (.inr (.inr (.inl _))), hc => exact hc.elim
  | .inr (.inr (.inr (.inr f))), hc => have := hc.1; omega
