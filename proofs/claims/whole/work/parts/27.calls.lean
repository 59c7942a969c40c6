theorem mm_mxl : ∀ m, m < 173 → mm_maxL m ≤ 20 := by decide +kernel
section MR
variable {p : Program} {l : Launch} {e : Env} {R : Room} {s : State} {mth : MethodId} {args : Array Value} {below : List Frame} {meth : Method} {c : Code} {H : Heap} {locs : List Loc} {cells slots : Nat} {Q : State → Prop} {E : mmE} {D : va_G} {dA : Nat → ClassId} {m pc : Nat} {ls : Array Slot} {rest : List Value} {h : mmH} {cal idx n d mc ms : Nat} {as : List Value} {r : Option Value} {h' : mmH}
theorem mr_d3 {cal n : Nat} (hnar : mm_nar1 cal n = true) : (mm_y cal).cls ≠ "java/lang/invoke/MethodHandle" ∧ (mm_y cal).cls ≠ "java/lang/invoke/VarHandle" ∧ (parseMethodDescriptor (mm_y cal).desc).map (fun d => d.parameters.length) = some n := by
  unfold mm_nar1 at hnar
  simp only [Bool.and_eq_true, decide_eq_true_eq] at hnar
  exact ⟨hnar.1.1, hnar.1.2, hnar.2⟩
theorem mr_R {R : Room} {d mc ms cal : Nat} (hcal : cal < 173) (hR : d + 2 ≤ R.frames ∧ 60 * (d + 1) + 60 ≤ R.locals) : (mm_rm d mc ms).frames + 1 ≤ R.frames ∧ 8 + (mm_maxL cal + 11) + (mm_rm d mc ms).locals ≤ R.locals := by
  have := mm_mxl cal hcal
  refine ⟨hR.1, ?_⟩
  show 8 + (mm_maxL cal + 11) + (60 * d + 60) ≤ R.locals
  omega
theorem mr_R12 {R : Room} {d mc ms cal : Nat} (hcal : cal < 173) (hR : d + 2 ≤ R.frames ∧ 60 * (d + 1) + 60 ≤ R.locals) : 12 + (mm_maxL cal + 11) + (mm_rm d mc ms).locals ≤ R.locals := by
  have := mm_mxl cal hcal
  show 12 + (mm_maxL cal + 11) + (60 * d + 60) ≤ R.locals
  omega
section R12
variable {y : MethodName} {bytes cc : ByteArray} {maxL nL mc ms n index : Nat} {ret : Option FieldType} {ws : List Cond} {rm : Room} {Pc : Array Value → State → Prop} {Qc : Array Value → State → Outcome → State → Prop} {free : Addr → Prop} {Ts : List Cond} {own C host : String} {b : Addr} {As rest : List Value} {g : JFrame}
/-- a virtual call with up to 12 below its arguments -/
theorem mr_runV (S : CallFix p mth c cc nL s args Ts own) (hM : Met l y ws rm Pc Qc mc ms free) (cw : CallW R s args own C index y bytes maxL ret ws rm mc ms n) (h12 : 12 + (maxL + 11) + rm.locals ≤ R.locals) (hp : PreV s H C b Pc As)
    (hg : g.method = mth) (hn : As.length = n) (hsize : g.locals.size = nL) (hstack : g.stack = As.reverse ++ .ref b :: rest) (hW : 2 * g.monitorRoom + (rest.map fun v => v.category).sum ≤ 12) (hdg : decode cc g.pc = .ok (.invokevirtual index, 3)) (hf : cells + mc ≤ R.cells ∧ slots + ms ≤ R.slots) :
    va_Run p l e R s mth args below meth c H locs cells slots mc ms g rest (Qc (Value.ref b :: As).toArray) (free) := by
  obtain ⟨⟨hrc, hrs, hfr, -, hws, hcw, hcode, hini, hy, hlen, hl⟩, hin, hse⟩ := cw
  have hK : Back l R p e below s args y 3 12 (PreOf R mc ms Pc) (PostOf Qc mc ms free) := back_of (bytes := bytes) (maxL := maxL) (ret := ret) hM hp.1 hrc hrs hfr h12 hws hcw (fun a' U hW => word_at hW (Or.inl (by first | rfl | simp [Cond.onTables, Cond.keeps, Cond.steady])) hini)
  obtain ⟨hx, hb, hml, ho, -⟩ := S
  obtain ⟨-, ⟨cellB, hcB, hoB, hclB⟩, hPc⟩ := hp
  intro T hT X
  obtain ⟨v, vm₁, ⟨U', l2, c2, s2⟩, hW₁, X', ⟨g', mk, t, L, e1, e2, hq, h1, hL, h2, h3⟩, st⟩ := callV X hx (C := C) (bytes := bytes) (maxL := maxL) (ret := ret) ho hl hin hse hcode hy hK (by rw [hT]; exact hcB) hoB hclB hg (hsize.trans hml.symm) (argsL := As) (rest := rest) (fun sig h => hn.trans (hlen sig h)) hstack hW (by rw [hb]; exact hdg)
    (fun vm₁ hW₁ => ⟨hf.1, hf.2, hPc (T.setVm vm₁) hT hW₁⟩)
  dsimp only [Pt.U, Pt.locs, Pt.cells, Pt.slots] at X' e1 e2 h1 h2 h3 st
  subst h1; subst h2; subst h3
  exact ⟨v, (T.setVm vm₁).calling g' mk (Value.ref b :: As).toArray, t, U', L, hT, X', hL, e1, e2, hq, st⟩
theorem mr_runVN (S : CallFix p mth c cc nL s args Ts own) (hM : Met l y ws rm Pc Qc mc ms free) (cw : va_CN R s args own index y host bytes maxL ret ws rm mc ms n ∧ (Cond.instanceMethod y).before args s = true ∧ (Cond.selects C y y).before args s = true) (h12 : 12 + (maxL + 11) + rm.locals ≤ R.locals) (hp : PreV s H C b Pc As)
    (hg : g.method = mth) (hn : As.length = n) (hsize : g.locals.size = nL) (hstack : g.stack = As.reverse ++ .ref b :: rest) (hW : 2 * g.monitorRoom + (rest.map fun v => v.category).sum ≤ 12) (hdg : decode cc g.pc = .ok (.invokevirtual index, 3)) (hf : cells + mc ≤ R.cells ∧ slots + ms ≤ R.slots) :
    va_Run p l e R s mth args below meth c H locs cells slots mc ms g rest (Qc (Value.ref b :: As).toArray) (free) := by
  obtain ⟨⟨⟨hrc, hrs, hfr, -, hws, hcw⟩, hcode, hini, hy, hlen, hl⟩, hx1, hx2⟩ := cw
  have hK : Back l R p e below s args y 3 12 (PreOf R mc ms Pc) (PostOf Qc mc ms free) := back_of (bytes := bytes) (maxL := maxL) (ret := ret) hM hp.1 hrc hrs hfr h12 hws hcw (fun a' U hW => word_at hW (Or.inl (by first | rfl | simp [Cond.onTables, Cond.keeps, Cond.steady])) hini)
  obtain ⟨hx, hb, hml, ho, -⟩ := S
  obtain ⟨-, ⟨cellB, hcB, hoB, hclB⟩, hPc⟩ := hp
  intro T hT X
  obtain ⟨v, vm₁, ⟨U', l2, c2, s2⟩, hW₁, X', ⟨g', mk, t, L, e1, e2, hq, h1, hL, h2, h3⟩, st⟩ := va_callVN X hx (C := C) (bytes := bytes) (maxL := maxL) (ret := ret) ho hl hx1 hx2 hcode hy hK (by rw [hT]; exact hcB) hoB hclB hg (hsize.trans hml.symm) (argsL := As) (rest := rest) (fun sig h => hn.trans (hlen sig h)) hstack hW (by rw [hb]; exact hdg)
    (fun vm₁ hW₁ => ⟨hf.1, hf.2, hPc (T.setVm vm₁) hT hW₁⟩)
  dsimp only [Pt.U, Pt.locs, Pt.cells, Pt.slots] at X' e1 e2 h1 h2 h3 st
  subst h1; subst h2; subst h3
  exact ⟨v, (T.setVm vm₁).calling g' mk (Value.ref b :: As).toArray, t, U', L, hT, X', hL, e1, e2, hq, st⟩
end R12
theorem mr_callS (cx : mm_cx E D dA p s mth args meth c m) (hr : mm_rel E D dA h H) (hS : va_S (mm_A E) s.heap H locs) (hM : Met l (mm_y cal) (mm_ws cal) (mm_rm d mc ms) (mm_Pc E D dA h as) (mm_Qc E D dA r h') mc ms (mm_A E)) (hcal : cal < 173) (hlk : Cond.methodLink (mm_own m) idx (mm_y cal) ∈ mm_tbl) (hst : Cond.static (mm_y cal) ∈ mm_tbl) (hini : Cond.initialized (mm_y cal).cls ∈ mm_tbl) (hnar : mm_nar1 cal n = true) (hn : as.length = n) (hR : d + 2 ≤ R.frames ∧ 60 * (d + 1) + 60 ≤ R.locals) (hsz : ls.size = mm_maxL m) (hsum : mm_sum rest ≤ 8) (hf : cells + mc ≤ R.cells ∧ slots + ms ≤ R.slots) (hdg : decode (mm_by m) pc = .ok (.invokestatic idx, 3))
    (kk : ∀ (H1 : Heap) (locs1 : List Loc), mm_rel E D dA h' H1 → va_S (mm_A E) s.heap H1 locs1 → W p l e R s mth args below meth c H1 locs1 (cells + mc) (slots + ms) Q (F0 mth (pc + 3) ls (r.toList ++ rest))) : W p l e R s mth args below meth c H locs cells slots Q (F0 mth pc ls (as.reverse ++ rest)) := by
  have cx0 := cx
  obtain ⟨hx, hb, -, hml, hown, hts, -, -, hK, hE⟩ := cx
  have hG : GoodIn mm_tbl (va_wsS (mm_own m) idx (mm_y cal) (mm_ws cal)) := fun w hw => by
    simp only [va_wsS, List.mem_append, List.mem_cons, List.not_mem_nil, or_false] at hw
    rcases hw with (rfl | rfl | rfl) | hw
    · exact mm_goodIn _ hlk
    · exact mm_goodIn _ hst
    · exact mm_goodIn _ hini
    · exact mm_wsGood hcal w hw
  exact mr_after (va_runS (n := n) (As := as) ⟨hx, hb, hml, hown, hts⟩ hM (va_cwS n hts hG rfl rfl rfl (mr_d3 hnar) (mr_R hcal hR)) ⟨mm_blind, mr_pre cx0 hr hS⟩ rfl hn hsz rfl (by show 2 * 0 + mm_sum rest ≤ 8; omega) hdg hf) hS kk
theorem mr_callSN (cx : mm_cx E D dA p s mth args meth c m) (hr : mm_rel E D dA h H) (hS : va_S (mm_A E) s.heap H locs) (hM : Met l (mm_y cal) (mm_ws cal) (mm_rm d mc ms) (mm_Pc E D dA h as) (mm_Qc E D dA r h') mc ms (mm_A E)) (hcal : cal < 173) (hlk : va_Nw (.methodLinkNest (mm_own m) idx (mm_y cal) "BoundsPlanner") s) (hst : Cond.static (mm_y cal) ∈ mm_tbl) (hini : Cond.initialized (mm_y cal).cls ∈ mm_tbl) (hnar : mm_nar1 cal n = true) (hn : as.length = n) (hR : d + 2 ≤ R.frames ∧ 60 * (d + 1) + 60 ≤ R.locals) (hsz : ls.size = mm_maxL m) (hsum : mm_sum rest ≤ 8) (hf : cells + mc ≤ R.cells ∧ slots + ms ≤ R.slots) (hdg : decode (mm_by m) pc = .ok (.invokestatic idx, 3))
    (kk : ∀ (H1 : Heap) (locs1 : List Loc), mm_rel E D dA h' H1 → va_S (mm_A E) s.heap H1 locs1 → W p l e R s mth args below meth c H1 locs1 (cells + mc) (slots + ms) Q (F0 mth (pc + 3) ls (r.toList ++ rest))) : W p l e R s mth args below meth c H locs cells slots Q (F0 mth pc ls (as.reverse ++ rest)) := by
  have cx0 := cx
  obtain ⟨hx, hb, -, hml, hown, hts, -, -, hK, hE⟩ := cx
  exact mr_after (va_runSN (n := n) (As := as) ⟨hx, hb, hml, hown, hts⟩ hM ⟨va_cnB n hts (mm_wsGood hcal) rfl rfl rfl hlk (hts _ hini) (mr_d3 hnar) (mr_R hcal hR), hts _ hst, trivial⟩ ⟨mm_blind, mr_pre cx0 hr hS⟩ rfl hn hsz rfl (by show 2 * 0 + mm_sum rest ≤ 8; omega) hdg hf) hS kk
theorem mr_callI {b : Nat} (cx : mm_cx E D dA p s mth args meth c m) (hr : mm_rel E D dA h H) (hS : va_S (mm_A E) s.heap H locs) (hM : Met l (mm_y cal) (mm_ws cal) (mm_rm d mc ms) (mm_Pc E D dA h (.ref b :: as)) (mm_Qc E D dA r h') mc ms (mm_A E)) (hcal : cal < 173) (hlk : Cond.methodLink (mm_own m) idx (mm_y cal) ∈ mm_tbl) (hit : Cond.instanceMethod (mm_y cal) ∈ mm_tbl) (hre : mm_re cal = none) (hnm : (mm_y cal).name = "<init>") (hini : Cond.initialized (mm_y cal).cls ∈ mm_tbl) (hnar : mm_nar1 cal n = true) (hn : as.length = n) (hR : d + 2 ≤ R.frames ∧ 60 * (d + 1) + 60 ≤ R.locals) (hsz : ls.size = mm_maxL m) (hsum : mm_sum rest ≤ 8) (hf : cells + mc ≤ R.cells ∧ slots + ms ≤ R.slots) (hdg : decode (mm_by m) pc = .ok (.invokespecial idx, 3))
    (kk : ∀ (H1 : Heap) (locs1 : List Loc), mm_rel E D dA h' H1 → va_S (mm_A E) s.heap H1 locs1 → W p l e R s mth args below meth c H1 locs1 (cells + mc) (slots + ms) Q (F0 mth (pc + 3) ls (r.toList ++ rest))) : W p l e R s mth args below meth c H locs cells slots Q (F0 mth pc ls (as.reverse ++ .ref b :: rest)) := by
  have cx0 := cx
  obtain ⟨hx, hb, -, hml, hown, hts, -, -, hK, hE⟩ := cx
  have hw : mm_ws cal = Cond.code (mm_y cal) (mm_by cal) (mm_maxL cal) none :: mm_tbl := by unfold mm_ws; rw [hre]
  exact mr_after (va_runI (n := n) (As := as) ⟨hx, hb, hml, hown, hts⟩ hM (cwI n hts (mm_wsGood hcal) hw rfl rfl (hts _ hini) (hts _ hlk) (hts _ hit) hnm (mr_d3 hnar) (mr_R hcal hR)) ⟨mm_blind, mr_pre cx0 hr hS⟩ rfl hn hsz rfl (by show 2 * 0 + mm_sum rest ≤ 8; omega) hdg hf) hS kk
theorem mr_callIN {b : Nat} (cx : mm_cx E D dA p s mth args meth c m) (hr : mm_rel E D dA h H) (hS : va_S (mm_A E) s.heap H locs) (hM : Met l (mm_y cal) (mm_ws cal) (mm_rm d mc ms) (mm_Pc E D dA h (.ref b :: as)) (mm_Qc E D dA r h') mc ms (mm_A E)) (hcal : cal < 173) (hlk : va_Nw (.methodLinkNest (mm_own m) idx (mm_y cal) "BoundsPlanner") s) (hit : Cond.instanceMethod (mm_y cal) ∈ mm_tbl) (hre : mm_re cal = none) (hnm : (mm_y cal).name = "<init>") (hini : Cond.initialized (mm_y cal).cls ∈ mm_tbl) (hnar : mm_nar1 cal n = true) (hn : as.length = n) (hR : d + 2 ≤ R.frames ∧ 60 * (d + 1) + 60 ≤ R.locals) (hsz : ls.size = mm_maxL m) (hsum : mm_sum rest ≤ 8) (hf : cells + mc ≤ R.cells ∧ slots + ms ≤ R.slots) (hdg : decode (mm_by m) pc = .ok (.invokespecial idx, 3))
    (kk : ∀ (H1 : Heap) (locs1 : List Loc), mm_rel E D dA h' H1 → va_S (mm_A E) s.heap H1 locs1 → W p l e R s mth args below meth c H1 locs1 (cells + mc) (slots + ms) Q (F0 mth (pc + 3) ls (r.toList ++ rest))) : W p l e R s mth args below meth c H locs cells slots Q (F0 mth pc ls (as.reverse ++ .ref b :: rest)) := by
  have cx0 := cx
  obtain ⟨hx, hb, -, hml, hown, hts, -, -, hK, hE⟩ := cx
  have hw : mm_ws cal = Cond.code (mm_y cal) (mm_by cal) (mm_maxL cal) none :: mm_tbl := by unfold mm_ws; rw [hre]
  exact mr_after (va_runIN (n := n) (As := as) ⟨hx, hb, hml, hown, hts⟩ hM ⟨va_cnB n hts (mm_wsGood hcal) hw rfl rfl hlk (hts _ hini) (mr_d3 hnar) (mr_R hcal hR), hnm, hts _ hit⟩ ⟨mm_blind, mr_pre cx0 hr hS⟩ rfl hn hsz rfl (by show 2 * 0 + mm_sum rest ≤ 8; omega) hdg hf) hS kk
theorem mr_rcv (cx : mm_cx E D dA p s mth args meth c m) (hr : mm_rel E D dA h H) (hS : va_S (mm_A E) s.heap H locs) {rk b : Nat} (h0 : 0 < rk) (hv : mm_rcv E h rk (some (.ref b)) = true) : ∃ cellB : Cell, H[b]? = some cellB ∧ cellB.vm.isStatics = false ∧ s.vm.findClass (mm_cnm rk) = some cellB.cls := by
  obtain ⟨hx, hb, -, hml, hown, hts, -, -, hK, hE⟩ := cx
  unfold mm_rcv at hv
  dsimp only at hv
  by_cases h100 : rk = 100
  · rw [if_pos h100] at hv
    subst h100
    cases hz : E.2.2 1 b with
    | none => rw [hz] at hv; cases hv
    | some z =>
      rw [hz] at hv
      match z, hz, hv with
      | .inl x, hz, hv => cases hv
      | .inr fs, hz, hv =>
        obtain ⟨cell, g1, g2, g3, g4⟩ := (hE.2.2.2.1 1 b _ hz).2.1
        exact ⟨cell, by rw [hS.2.1 b (Array.getElem?_eq_some_iff.mp g1).1 g4]; exact g1, g2, g3⟩
  · rw [if_neg h100] at hv
    cases hc : h.2.2 b with
    | none => rw [hc] at hv; cases hv
    | some z =>
      rw [hc] at hv
      match z, hc, hv with
      | .inl x, hc, hv => cases hv
      | .inr (ci, fs), hc, hv =>
        have hci : ci + 1 = rk := by simpa using hv
        obtain ⟨C, T, N, cell, h1, g1, g2, g3⟩ := mr_obj hK hr hc
        refine ⟨cell, g1, g2, ?_⟩
        have hnm : mm_cnm rk = C := by
          unfold mm_cnm
          rw [if_neg h100, ← hci, Nat.add_sub_cancel, h1]
          rfl
        rw [hnm]
        exact g3
theorem mr_callV {b rk : Nat} (cx : mm_cx E D dA p s mth args meth c m) (hr : mm_rel E D dA h H) (hS : va_S (mm_A E) s.heap H locs) (hM : Met l (mm_y cal) (mm_ws cal) (mm_rm d mc ms) (mm_Pc E D dA h (.ref b :: as)) (mm_Qc E D dA r h') mc ms (mm_A E)) (hcal : cal < 173) (hlk : Cond.methodLink (mm_own m) idx (mm_y cal) ∈ mm_tbl) (hit : Cond.instanceMethod (mm_y cal) ∈ mm_tbl) (hse : Cond.selects (mm_y cal).cls (mm_y cal) (mm_y cal) ∈ mm_tbl) (hini : Cond.initialized (mm_y cal).cls ∈ mm_tbl) (hnar : mm_nar1 cal n = true) (hn : as.length = n) (h0 : 0 < rk) (hcn : (mm_y cal).cls = mm_cnm rk) (hv : mm_rcv E h rk (some (.ref b)) = true) (hR : d + 2 ≤ R.frames ∧ 60 * (d + 1) + 60 ≤ R.locals) (hsz : ls.size = mm_maxL m) (hsum : mm_sum rest ≤ 12) (hf : cells + mc ≤ R.cells ∧ slots + ms ≤ R.slots) (hdg : decode (mm_by m) pc = .ok (.invokevirtual idx, 3))
    (kk : ∀ (H1 : Heap) (locs1 : List Loc), mm_rel E D dA h' H1 → va_S (mm_A E) s.heap H1 locs1 → W p l e R s mth args below meth c H1 locs1 (cells + mc) (slots + ms) Q (F0 mth (pc + 3) ls (r.toList ++ rest))) : W p l e R s mth args below meth c H locs cells slots Q (F0 mth pc ls (as.reverse ++ .ref b :: rest)) := by
  have cx0 := cx
  obtain ⟨hx, hb, -, hml, hown, hts, -, -, hK, hE⟩ := cx
  have hG : GoodIn mm_tbl (wsV (mm_own m) idx (mm_y cal).cls (mm_y cal) (mm_ws cal)) := fun w hw => by
    simp only [wsV, List.mem_append, List.mem_cons, List.not_mem_nil, or_false] at hw
    rcases hw with (rfl | rfl | rfl | rfl) | hw
    · exact mm_goodIn _ hlk
    · exact mm_goodIn _ hit
    · exact mm_goodIn _ hse
    · exact mm_goodIn _ hini
    · exact mm_wsGood hcal w hw
  exact mr_after (mr_runV (n := n) (As := as) ⟨hx, hb, hml, hown, hts⟩ hM (cwV n hts hG rfl rfl rfl ⟨rfl, mr_d3 hnar⟩ (mr_R hcal hR)) (mr_R12 hcal hR) ⟨mm_blind, by rw [hcn]; exact mr_rcv cx0 hr hS h0 hv, mr_pre cx0 hr hS⟩ rfl hn hsz rfl (by show 2 * 0 + mm_sum rest ≤ 12; omega) hdg hf) hS kk
theorem mr_callVN {b rk : Nat} (cx : mm_cx E D dA p s mth args meth c m) (hr : mm_rel E D dA h H) (hS : va_S (mm_A E) s.heap H locs) (hM : Met l (mm_y cal) (mm_ws cal) (mm_rm d mc ms) (mm_Pc E D dA h (.ref b :: as)) (mm_Qc E D dA r h') mc ms (mm_A E)) (hcal : cal < 173) (hlk : va_Nw (.methodLinkNest (mm_own m) idx (mm_y cal) "BoundsPlanner") s) (hit : Cond.instanceMethod (mm_y cal) ∈ mm_tbl) (hse : Cond.selects (mm_y cal).cls (mm_y cal) (mm_y cal) ∈ mm_tbl) (hini : Cond.initialized (mm_y cal).cls ∈ mm_tbl) (hnar : mm_nar1 cal n = true) (hn : as.length = n) (h0 : 0 < rk) (hcn : (mm_y cal).cls = mm_cnm rk) (hv : mm_rcv E h rk (some (.ref b)) = true) (hR : d + 2 ≤ R.frames ∧ 60 * (d + 1) + 60 ≤ R.locals) (hsz : ls.size = mm_maxL m) (hsum : mm_sum rest ≤ 12) (hf : cells + mc ≤ R.cells ∧ slots + ms ≤ R.slots) (hdg : decode (mm_by m) pc = .ok (.invokevirtual idx, 3))
    (kk : ∀ (H1 : Heap) (locs1 : List Loc), mm_rel E D dA h' H1 → va_S (mm_A E) s.heap H1 locs1 → W p l e R s mth args below meth c H1 locs1 (cells + mc) (slots + ms) Q (F0 mth (pc + 3) ls (r.toList ++ rest))) : W p l e R s mth args below meth c H locs cells slots Q (F0 mth pc ls (as.reverse ++ .ref b :: rest)) := by
  have cx0 := cx
  obtain ⟨hx, hb, -, hml, hown, hts, -, -, hK, hE⟩ := cx
  exact mr_after (mr_runVN (n := n) (As := as) ⟨hx, hb, hml, hown, hts⟩ hM ⟨va_cnB n hts (mm_wsGood hcal) rfl rfl rfl hlk (hts _ hini) (mr_d3 hnar) (mr_R hcal hR), hts _ hit, hts _ hse⟩ (mr_R12 hcal hR) ⟨mm_blind, by rw [hcn]; exact mr_rcv cx0 hr hS h0 hv, mr_pre cx0 hr hS⟩ rfl hn hsz rfl (by show 2 * 0 + mm_sum rest ≤ 12; omega) hdg hf) hS kk
end MR
