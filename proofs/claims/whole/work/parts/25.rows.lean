section MR
variable {p : Program} {l : Launch} {e : Env} {R : Room} {s : State} {mth : MethodId} {args : Array Value} {below : List Frame} {meth : Method} {c : Code} {H : Heap} {locs : List Loc} {cells slots : Nat} {Q : State → Prop} {E : mmE} {D : va_G} {dA : Nat → ClassId} {m pc : Nat} {ls : Array Slot} {rest : List Value} {h : mmH}
theorem mm_w_c1 : Cond.sameMethod "[B" "java/lang/Object" "clone" "()Ljava/lang/Object;" ∈ mm_tbl := by decide +kernel
theorem mm_w_c2 : Cond.native ⟨"java/lang/Object", "clone", "()Ljava/lang/Object;"⟩ ∈ mm_tbl := by decide +kernel
theorem mm_w_c3 : Cond.instanceMethod ⟨"java/lang/Object", "clone", "()Ljava/lang/Object;"⟩ ∈ mm_tbl := by decide +kernel
theorem mm_w_c4 : Cond.selects "[B" ⟨"[B", "clone", "()Ljava/lang/Object;"⟩ ⟨"java/lang/Object", "clone", "()Ljava/lang/Object;"⟩ ∈ mm_tbl := by decide +kernel
theorem mm_w_c5 : Cond.castable "[B" "java/lang/Cloneable" ∈ lw_tbl := by decide +kernel
theorem mr_clone (cx : mm_cx E D dA p s mth args meth c m) (hr : mm_rel E D dA h H) (hS : va_S (mm_A E) s.heap H locs) {a n idx : Nat} {f : Nat → Int32} (ha : h.2.2 a = some (.inl (0, n, .inl f))) (hl : Cond.methodLink (mm_own m) idx ⟨"[B", "clone", "()Ljava/lang/Object;"⟩ ∈ mm_tbl) (hsum : mm_sum rest ≤ 8) (hsz : ls.size = mm_maxL m) (hfr : 1 ≤ R.frames) (hlo : 60 ≤ R.locals) (hcells : cells + 1 ≤ R.cells) (hslots : slots + n ≤ R.slots) (hdg : decode (mm_by m) pc = .ok (.invokevirtual idx, 3))
    (kk : ∀ (H1 : Heap), mm_rel E D dA (mm_new h n (.inl (0, n, .inl f))) H1 → va_S (mm_A E) s.heap H1 locs → W p l e R s mth args below meth c H1 locs (cells + 1) (slots + n) Q (F0 mth (pc + 3) ls (.ref h.1 :: rest))) : W p l e R s mth args below meth c H locs cells slots Q (F0 mth pc ls (.ref a :: rest)) := by
  obtain ⟨hx, hb, -, hml, hown, hts, -, -, hK, hE⟩ := cx
  have hok := (hr.2.2 a _ ha).2.2
  have hca := mr_tcase hr ha
  have hsize : (vp_cell (dA 0) (n, .inl f)).slots.size = n := arrV_size _ _ _
  obtain ⟨c0, t0', f1, f2, f3⟩ := Cond.castable_spec (va_Nw.use (A := args) rfl (hE.2.2.2.2.2.1 _ _ mm_w_c5))
  have hnm : s.vm.findClass "[B" = some (dA 0) := (hK.2 0 _ rfl).2
  cases hnm.symm.trans f1
  intro T hT X
  obtain ⟨-, kA, hkA, comp, hkind⟩ := State.isArrayOf_alike X.warmed.alike ((hK.2 0 _ rfl).1 0 (fun _ => .null))
  obtain ⟨-, kS, hkS, compS, hkindS⟩ := (hK.2 0 _ rfl).1 0 (fun _ => .null)
  obtain ⟨vm', X', st⟩ := X.cloneArray hx hown (hts _ hl) (hts _ mm_w_c1) (hts _ mm_w_c2) (hts _ mm_w_c3) (hts _ mm_w_c4) (a := a) (cell := vp_cell (dA 0) (n, .inl f)) (by rw [hT]; exact hca) (fun k h => by cases h) (fun h => by cases h) hnm f2 f3
    (fun i v hv => by
      have hk' : T.vm.classes[dA 0]? = some kA := hkA
      have hfit : fits .byte v = true := va_fit (cA := dA 0) (n := n) (F := fun j => .int (f j)) (fun j _ => by rw [← hok.2 rfl j]; exact pk_fb _) i v hv
      simpa [State.fitsSlot, State.slotType?, hk', hkind, vp_cell, arrV, mm_aty] using hfit)
    (g := F0 mth pc ls (.ref a :: rest)) rfl (by rw [hml]; exact hsz) rfl (by rw [hb]; exact hdg) hfr (by show 2 * 0 + mm_sum rest + 14 ≤ _; omega) hcells (by rw [hsize]; exact hslots) (hloader := Vm.clonesLoader_of_array hkS hkindS)
  rw [hsize] at X'
  have z1 : (H.push (vp_cell (dA 0) (n, .inl f))).size = H.size + 1 := Array.size_push _
  have o1 : ∀ q : Nat, q < H.size → (H.push (vp_cell (dA 0) (n, .inl f)))[q]? = H[q]? := fun q hq => by rw [Array.getElem?_push, if_neg (Nat.ne_of_lt hq)]
  obtain ⟨t2, b1, b2⟩ := kk (H.push (vp_cell (dA 0) (n, .inl f))) (hr.new hok z1 o1 (show (H.push _)[h.1]? = some _ by rw [← hr.1, Array.getElem?_push_size])) (mr_S1 hS z1 o1) ((T.setVm vm').pushCell (vp_cell (dA 0) (n, .inl f))) (by rw [← hT]; rfl) X'
  refine ⟨t2, st t2 ?_, b2⟩
  rw [hT, hr.1]
  exact b1
theorem mm_w_g1 : Cond.selects "[Ljava/lang/Object;" ⟨"java/lang/Object", "getClass", "()Ljava/lang/Class;"⟩ ⟨"java/lang/Object", "getClass", "()Ljava/lang/Class;"⟩ ∈ mm_tbl := by decide +kernel
theorem mm_w_g2 : Cond.instanceMethod ⟨"java/lang/Object", "getClass", "()Ljava/lang/Class;"⟩ ∈ mm_tbl := by decide +kernel
theorem mm_w_g3 : Cond.native ⟨"java/lang/Object", "getClass", "()Ljava/lang/Class;"⟩ ∈ mm_tbl := by decide +kernel
theorem mr_getC (cx : mm_cx E D dA p s mth args meth c m) (hr : mm_rel E D dA h H) {a idx : Nat} {x : vp_A} (ha : h.2.2 a = some (.inl (3, x))) (hl : Cond.methodLink (mm_own m) idx ⟨"java/lang/Object", "getClass", "()Ljava/lang/Class;"⟩ ∈ mm_tbl) (hsum : mm_sum rest ≤ 8) (hsz : ls.size = mm_maxL m) (hfr : 1 ≤ R.frames) (hlo : 60 ≤ R.locals) (hdg : decode (mm_by m) pc = .ok (.invokevirtual idx, 3))
    (kk : W p l e R s mth args below meth c H locs cells slots Q (F0 mth (pc + 3) ls (E.2.1 3 :: rest))) : W p l e R s mth args below meth c H locs cells slots Q (F0 mth pc ls (.ref a :: rest)) := by
  obtain ⟨hx, hb, -, hml, hown, hts, -, -, hK, hE⟩ := cx
  obtain ⟨mi, e1, hM⟩ := hE.2.1
  rw [e1] at kk
  have hvm0 : (vp_cell (dA 3) x).vm = .none := by
    obtain ⟨n, f | f | f | f | f⟩ := x <;> rfl
  have hcl0 : (vp_cell (dA 3) x).cls = dA 3 := by
    obtain ⟨n, f | f | f | f | f⟩ := x <;> rfl
  refine va_getC hx hb (by rw [hml]; exact hsz.symm) hown (hts _ hl) (va_Dc.use hE.2.2.2.2.2.2.1) (hts _ mm_w_g1) (hts _ mm_w_g2) (hts _ mm_w_g3) hM ⟨_, mr_tcase hr ha, by rw [hvm0]; rfl, by rw [hcl0]; exact va_nmO (hK.2 3 _ rfl).2 rfl⟩ hfr (by show mm_sum rest + 14 ≤ _; omega) hdg kk
theorem mm_w_i1 : Cond.instanceMethod objectInit ∈ mm_tbl := by decide +kernel
theorem mm_w_i2 : Cond.code objectInit ⟨#[0xb1]⟩ 1 none ∈ mm_tbl := mm_win (List.mem_of_getElem? (i := 111) rfl) rfl
theorem mr_oinit (cx : mm_cx E D dA p s mth args meth c m) {a idx : Nat} (hl : Cond.methodLink (mm_own m) idx Lib.objectInit ∈ mm_tbl) (hsum : mm_sum rest ≤ 8) (hsz : ls.size = mm_maxL m) (hfr : 1 ≤ R.frames) (hlo : 60 ≤ R.locals) (hdg : decode (mm_by m) pc = .ok (.invokespecial idx, 3))
    (kk : W p l e R s mth args below meth c H locs cells slots Q (F0 mth (pc + 3) ls rest)) : W p l e R s mth args below meth c H locs cells slots Q (F0 mth pc ls (.ref a :: rest)) := by
  obtain ⟨hx, hb, -, hml, hown, hts, -, -, hK, hE⟩ := cx
  exact W.objInit hx hb hown (hts _ hl) (hts _ mm_w_i1) (hts _ mm_w_i2) rfl (by rw [hml]; exact hsz) rfl hdg hfr (by show 2 * 0 + mm_sum rest + 12 ≤ _; omega) kk
def mm_Pc (E : mmE) (D : va_G) (dA : Nat → ClassId) (h : mmH) (as : List Value) : Array Value → State → Prop := fun v U => v = as.toArray ∧ mm_rel E D dA h U.heap ∧ va_K D mm_cls (mm_tys dA) U ∧ mm_env E U U.heap
def mm_Qc (E : mmE) (D : va_G) (dA : Nat → ClassId) (r : Option Value) (h' : mmH) : Array Value → State → Outcome → State → Prop := fun _ st o t => o = .returned r ∧ mm_rel E D dA h' t.heap ∧ st.heap.size ≤ t.heap.size ∧ ∀ q : Nat, q < st.heap.size → ¬ mm_A E q → t.heap[q]? = st.heap[q]?
def mm_ws (m : Nat) : List Cond := Cond.code (mm_y m) (mm_by m) (mm_maxL m) (mm_re m) :: mm_tbl
def mm_rm (d mc ms : Nat) : Room := { frames := d + 1, cells := mc, slots := ms, locals := 60 * d + 60 }
theorem mm_wsGood {m : Nat} (hm : m < 173) : GoodIn mm_tbl (mm_ws m) := fun w hw => by
  rcases List.mem_cons.mp hw with rfl | hw
  · exact ⟨mm_code_in hm, good_of_word rfl⟩
  · exact mm_goodIn w hw
theorem mm_blind {as : List Value} : FrameBlind (mm_Pc E D dA h as) := fun _ U _ _ q => ⟨q.1, q.2.1, va_K.moved (Vm.Alike.refl U.vm) q.2.2.1, mm_env.moved (State.WarmedH.refl U) (fun _ _ _ => rfl) q.2.2.2⟩
theorem mr_pre (cx : mm_cx E D dA p s mth args meth c m) (hr : mm_rel E D dA h H) (hS : va_S (mm_A E) s.heap H locs) {as : List Value} : ∀ U : State, U.heap = H → s.WarmedH U.vm → mm_Pc E D dA h as as.toArray U := by
  obtain ⟨-, -, -, -, -, -, -, -, hK, hE⟩ := cx
  intro U hU hW
  exact ⟨rfl, by rw [hU]; exact hr, va_K.moved hW.alike hK, mm_env.moved hW (fun a h1 h2 => by rw [hU]; exact hS.2.1 a h1 h2) hE⟩
theorem mr_after {mc ms : Nat} {st0 : List Value} {r : Option Value} {h' : mmH} {a : Array Value} (hrun : va_Run p l e R s mth args below meth c H locs cells slots mc ms (F0 mth pc ls st0) rest (mm_Qc E D dA r h' a) (mm_A E)) (hS : va_S (mm_A E) s.heap H locs)
    (kk : ∀ (H1 : Heap) (locs1 : List Loc), mm_rel E D dA h' H1 → va_S (mm_A E) s.heap H1 locs1 → W p l e R s mth args below meth c H1 locs1 (cells + mc) (slots + ms) Q (F0 mth (pc + 3) ls (r.toList ++ rest))) : W p l e R s mth args below meth c H locs cells slots Q (F0 mth pc ls st0) := by
  intro T hT X
  obtain ⟨v, st₀, t, T', L, h0, X', hL, e1, e2, ⟨hv, hrel, hz, hk⟩, st⟩ := hrun T hT X
  cases hv
  rw [h0] at hz hk
  obtain ⟨t2, a1, b1⟩ := kk T'.heap (locs ++ L) (by rw [e1]; exact hrel) ⟨by rw [e1]; exact Nat.le_trans hS.1 hz, fun q h1 h2 => by rw [e1, hk q (Nat.lt_of_lt_of_le h1 hS.1) h2]; exact hS.2.1 q h1 h2, fun q hq => by
      rcases List.mem_append.mp hq with h | h
      · exact hS.2.2 q h
      · exact hL q h⟩ T' rfl X'
  exact ⟨t2, st t2 a1, b1⟩
end MR
