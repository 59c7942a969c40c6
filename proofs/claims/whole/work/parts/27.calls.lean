theorem mm_mxl : ∀ m, m < 173 → mm_maxL m ≤ 40 := by decide +kernel
section MR
variable {p : Program} {l : Launch} {e : Env} {R : Room} {s : State} {mth : MethodId} {args : Array Value} {below : List Frame} {meth : Method} {c : Code} {H : Heap} {locs : List Loc} {cells slots : Nat} {Q : State → Prop} {E : mmE} {D : va_G} {dA : Nat → ClassId} {m pc : Nat} {ls : Array Slot} {rest : List Value} {h : mmH} {cal idx n d mc ms : Nat} {as : List Value} {r : Option Value} {h' : mmH}
theorem mr_d3 {cal n : Nat} (hnar : mm_nar1 cal n = true) : (mm_y cal).cls ≠ "java/lang/invoke/MethodHandle" ∧ (mm_y cal).cls ≠ "java/lang/invoke/VarHandle" ∧ (parseMethodDescriptor (mm_y cal).desc).map (fun d => d.parameters.length) = some n := by
  unfold mm_nar1 at hnar
  simp only [Bool.and_eq_true, decide_eq_true_eq] at hnar
  exact ⟨hnar.1.1, hnar.1.2, hnar.2⟩
theorem mr_R {R : Room} {d mc ms cal : Nat} (hcal : cal < 173) (hR : d + 2 ≤ R.frames ∧ 60 * (d + 1) + 60 ≤ R.locals) : (mm_rm d mc ms).frames + 1 ≤ R.frames ∧ 8 + (mm_maxL cal + 11) + (mm_rm d mc ms).locals ≤ R.locals := by
  have := mm_mxl cal hcal
  refine ⟨hR.1, ?_⟩
  show 8 + (mm_maxL cal + 11) + (60 * d + 60) ≤ R.locals
  omega
theorem mr_callS (cx : mm_cx E D dA p s mth args meth c m) (hr : mm_rel E D dA h H) (hS : va_S (mm_A E) s.heap H locs) (hM : Met l (mm_y cal) (mm_ws cal) (mm_rm d mc ms) (mm_Pc E D dA h as) (mm_Qc E D dA r h') mc ms (mm_A E)) (hcal : cal < 173) (hlk : Cond.methodLink (mm_own m) idx (mm_y cal) ∈ mm_tbl) (hst : Cond.static (mm_y cal) ∈ mm_tbl) (hini : Cond.initialized (mm_y cal).cls ∈ mm_tbl) (hnar : mm_nar1 cal n = true) (hn : as.length = n) (hR : d + 2 ≤ R.frames ∧ 60 * (d + 1) + 60 ≤ R.locals) (hsz : ls.size = mm_maxL m) (hsum : mm_sum rest ≤ 8) (hf : cells + mc ≤ R.cells ∧ slots + ms ≤ R.slots) (hdg : decode (mm_by m) pc = .ok (.invokestatic idx, 3))
    (kk : ∀ (H1 : Heap) (locs1 : List Loc), mm_rel E D dA h' H1 → va_S (mm_A E) s.heap H1 locs1 → W p l e R s mth args below meth c H1 locs1 (cells + mc) (slots + ms) Q (F0 mth (pc + 3) ls (r.toList ++ rest))) : W p l e R s mth args below meth c H locs cells slots Q (F0 mth pc ls (as.reverse ++ rest)) := by
  have cx0 := cx
  obtain ⟨hx, hb, -, hml, hown, hts, -, -, hK, hE⟩ := cx
  have hG : GoodIn mm_tbl (va_wsS (mm_own m) idx (mm_y cal) (mm_ws cal)) := fun w hw => by
    simp only [va_wsS, List.mem_append, List.mem_cons, List.not_mem_nil, or_false] at hw
    rcases hw with (rfl | rfl | rfl) | hw
    · exact mm_goodIn _ hlk
    · exact mm_goodIn _ hst
    · exact mm_goodIn _ hini
    · exact mm_wsGood hcal w hw
  exact mr_after (va_runS (n := n) (As := as) ⟨hx, hb, hml, hown, hts⟩ hM (va_cwS n hts hG rfl rfl rfl (mr_d3 hnar) (mr_R hcal hR)) ⟨mm_blind, mr_pre cx0 hr hS⟩ rfl hn hsz rfl (by show 2 * 0 + mm_sum rest ≤ 8; omega) hdg hf) hS kk
theorem mr_callSN (cx : mm_cx E D dA p s mth args meth c m) (hr : mm_rel E D dA h H) (hS : va_S (mm_A E) s.heap H locs) (hM : Met l (mm_y cal) (mm_ws cal) (mm_rm d mc ms) (mm_Pc E D dA h as) (mm_Qc E D dA r h') mc ms (mm_A E)) (hcal : cal < 173) (hlk : va_Nw (.methodLinkNest (mm_own m) idx (mm_y cal) "BoundsPlanner") s) (hst : Cond.static (mm_y cal) ∈ mm_tbl) (hini : Cond.initialized (mm_y cal).cls ∈ mm_tbl) (hnar : mm_nar1 cal n = true) (hn : as.length = n) (hR : d + 2 ≤ R.frames ∧ 60 * (d + 1) + 60 ≤ R.locals) (hsz : ls.size = mm_maxL m) (hsum : mm_sum rest ≤ 8) (hf : cells + mc ≤ R.cells ∧ slots + ms ≤ R.slots) (hdg : decode (mm_by m) pc = .ok (.invokestatic idx, 3))
    (kk : ∀ (H1 : Heap) (locs1 : List Loc), mm_rel E D dA h' H1 → va_S (mm_A E) s.heap H1 locs1 → W p l e R s mth args below meth c H1 locs1 (cells + mc) (slots + ms) Q (F0 mth (pc + 3) ls (r.toList ++ rest))) : W p l e R s mth args below meth c H locs cells slots Q (F0 mth pc ls (as.reverse ++ rest)) := by
  have cx0 := cx
  obtain ⟨hx, hb, -, hml, hown, hts, -, -, hK, hE⟩ := cx
  exact mr_after (va_runSN (n := n) (As := as) ⟨hx, hb, hml, hown, hts⟩ hM ⟨va_cnB n hts (mm_wsGood hcal) rfl rfl rfl hlk (hts _ hini) (mr_d3 hnar) (mr_R hcal hR), hts _ hst, trivial⟩ ⟨mm_blind, mr_pre cx0 hr hS⟩ rfl hn hsz rfl (by show 2 * 0 + mm_sum rest ≤ 8; omega) hdg hf) hS kk
theorem mr_callI {b : Nat} (cx : mm_cx E D dA p s mth args meth c m) (hr : mm_rel E D dA h H) (hS : va_S (mm_A E) s.heap H locs) (hM : Met l (mm_y cal) (mm_ws cal) (mm_rm d mc ms) (mm_Pc E D dA h (.ref b :: as)) (mm_Qc E D dA r h') mc ms (mm_A E)) (hcal : cal < 173) (hlk : Cond.methodLink (mm_own m) idx (mm_y cal) ∈ mm_tbl) (hit : Cond.instanceMethod (mm_y cal) ∈ mm_tbl) (hre : mm_re cal = none) (hnm : (mm_y cal).name = "<init>") (hini : Cond.initialized (mm_y cal).cls ∈ mm_tbl) (hnar : mm_nar1 cal n = true) (hn : as.length = n) (hR : d + 2 ≤ R.frames ∧ 60 * (d + 1) + 60 ≤ R.locals) (hsz : ls.size = mm_maxL m) (hsum : mm_sum rest ≤ 8) (hf : cells + mc ≤ R.cells ∧ slots + ms ≤ R.slots) (hdg : decode (mm_by m) pc = .ok (.invokespecial idx, 3))
    (kk : ∀ (H1 : Heap) (locs1 : List Loc), mm_rel E D dA h' H1 → va_S (mm_A E) s.heap H1 locs1 → W p l e R s mth args below meth c H1 locs1 (cells + mc) (slots + ms) Q (F0 mth (pc + 3) ls (r.toList ++ rest))) : W p l e R s mth args below meth c H locs cells slots Q (F0 mth pc ls (as.reverse ++ .ref b :: rest)) := by
  have cx0 := cx
  obtain ⟨hx, hb, -, hml, hown, hts, -, -, hK, hE⟩ := cx
  have hw : mm_ws cal = Cond.code (mm_y cal) (mm_by cal) (mm_maxL cal) none :: mm_tbl := by unfold mm_ws; rw [hre]
  exact mr_after (va_runI (n := n) (As := as) ⟨hx, hb, hml, hown, hts⟩ hM (cwI n hts (mm_wsGood hcal) hw rfl rfl (hts _ hini) (hts _ hlk) (hts _ hit) hnm (mr_d3 hnar) (mr_R hcal hR)) ⟨mm_blind, mr_pre cx0 hr hS⟩ rfl hn hsz rfl (by show 2 * 0 + mm_sum rest ≤ 8; omega) hdg hf) hS kk
theorem mr_callIN {b : Nat} (cx : mm_cx E D dA p s mth args meth c m) (hr : mm_rel E D dA h H) (hS : va_S (mm_A E) s.heap H locs) (hM : Met l (mm_y cal) (mm_ws cal) (mm_rm d mc ms) (mm_Pc E D dA h (.ref b :: as)) (mm_Qc E D dA r h') mc ms (mm_A E)) (hcal : cal < 173) (hlk : va_Nw (.methodLinkNest (mm_own m) idx (mm_y cal) "BoundsPlanner") s) (hit : Cond.instanceMethod (mm_y cal) ∈ mm_tbl) (hre : mm_re cal = none) (hnm : (mm_y cal).name = "<init>") (hini : Cond.initialized (mm_y cal).cls ∈ mm_tbl) (hnar : mm_nar1 cal n = true) (hn : as.length = n) (hR : d + 2 ≤ R.frames ∧ 60 * (d + 1) + 60 ≤ R.locals) (hsz : ls.size = mm_maxL m) (hsum : mm_sum rest ≤ 8) (hf : cells + mc ≤ R.cells ∧ slots + ms ≤ R.slots) (hdg : decode (mm_by m) pc = .ok (.invokespecial idx, 3))
    (kk : ∀ (H1 : Heap) (locs1 : List Loc), mm_rel E D dA h' H1 → va_S (mm_A E) s.heap H1 locs1 → W p l e R s mth args below meth c H1 locs1 (cells + mc) (slots + ms) Q (F0 mth (pc + 3) ls (r.toList ++ rest))) : W p l e R s mth args below meth c H locs cells slots Q (F0 mth pc ls (as.reverse ++ .ref b :: rest)) := by
  have cx0 := cx
  obtain ⟨hx, hb, -, hml, hown, hts, -, -, hK, hE⟩ := cx
  have hw : mm_ws cal = Cond.code (mm_y cal) (mm_by cal) (mm_maxL cal) none :: mm_tbl := by unfold mm_ws; rw [hre]
  exact mr_after (va_runIN (n := n) (As := as) ⟨hx, hb, hml, hown, hts⟩ hM ⟨va_cnB n hts (mm_wsGood hcal) hw rfl rfl hlk (hts _ hini) (mr_d3 hnar) (mr_R hcal hR), hnm, hts _ hit⟩ ⟨mm_blind, mr_pre cx0 hr hS⟩ rfl hn hsz rfl (by show 2 * 0 + mm_sum rest ≤ 8; omega) hdg hf) hS kk
theorem mr_rcv (cx : mm_cx E D dA p s mth args meth c m) (hr : mm_rel E D dA h H) (hS : va_S (mm_A E) s.heap H locs) {rk b : Nat} (h0 : 0 < rk) (hv : mm_rcv E h rk (some (.ref b)) = true) : ∃ cellB : Cell, H[b]? = some cellB ∧ cellB.vm.isStatics = false ∧ s.vm.findClass (mm_cnm rk) = some cellB.cls := by
  obtain ⟨hx, hb, -, hml, hown, hts, -, -, hK, hE⟩ := cx
  unfold mm_rcv at hv
  dsimp only at hv
  by_cases h100 : rk = 100
  · rw [if_pos h100] at hv
    subst h100
    cases hz : E.2.2 1 b with
    | none => rw [hz] at hv; cases hv
    | some z =>
      rw [hz] at hv
      match z, hz, hv with
      | .inl x, hz, hv => cases hv
      | .inr fs, hz, hv =>
        obtain ⟨cell, g1, g2, g3, g4⟩ := (hE.2.2.2.1 1 b _ hz).2.1
        exact ⟨cell, by rw [hS.2.1 b (Array.getElem?_eq_some_iff.mp g1).1 g4]; exact g1, g2, g3⟩
  · rw [if_neg h100] at hv
    cases hc : h.2.2 b with
    | none => rw [hc] at hv; cases hv
    | some z =>
      rw [hc] at hv
      match z, hc, hv with
      | .inl x, hc, hv => cases hv
      | .inr (ci, fs), hc, hv =>
        have hci : ci + 1 = rk := by simpa using hv
        obtain ⟨C, T, N, cell, h1, g1, g2, g3⟩ := mr_obj hK hr hc
        refine ⟨cell, g1, g2, ?_⟩
        have hnm : mm_cnm rk = C := by
          unfold mm_cnm
          rw [if_neg h100, ← hci, Nat.add_sub_cancel, h1]
          rfl
        rw [hnm]
        exact g3
theorem mr_callV {b rk : Nat} (cx : mm_cx E D dA p s mth args meth c m) (hr : mm_rel E D dA h H) (hS : va_S (mm_A E) s.heap H locs) (hM : Met l (mm_y cal) (mm_ws cal) (mm_rm d mc ms) (mm_Pc E D dA h (.ref b :: as)) (mm_Qc E D dA r h') mc ms (mm_A E)) (hcal : cal < 173) (hlk : Cond.methodLink (mm_own m) idx (mm_y cal) ∈ mm_tbl) (hit : Cond.instanceMethod (mm_y cal) ∈ mm_tbl) (hse : Cond.selects (mm_y cal).cls (mm_y cal) (mm_y cal) ∈ mm_tbl) (hini : Cond.initialized (mm_y cal).cls ∈ mm_tbl) (hnar : mm_nar1 cal n = true) (hn : as.length = n) (h0 : 0 < rk) (hcn : (mm_y cal).cls = mm_cnm rk) (hv : mm_rcv E h rk (some (.ref b)) = true) (hR : d + 2 ≤ R.frames ∧ 60 * (d + 1) + 60 ≤ R.locals) (hsz : ls.size = mm_maxL m) (hsum : mm_sum rest ≤ 8) (hf : cells + mc ≤ R.cells ∧ slots + ms ≤ R.slots) (hdg : decode (mm_by m) pc = .ok (.invokevirtual idx, 3))
    (kk : ∀ (H1 : Heap) (locs1 : List Loc), mm_rel E D dA h' H1 → va_S (mm_A E) s.heap H1 locs1 → W p l e R s mth args below meth c H1 locs1 (cells + mc) (slots + ms) Q (F0 mth (pc + 3) ls (r.toList ++ rest))) : W p l e R s mth args below meth c H locs cells slots Q (F0 mth pc ls (as.reverse ++ .ref b :: rest)) := by
  have cx0 := cx
  obtain ⟨hx, hb, -, hml, hown, hts, -, -, hK, hE⟩ := cx
  have hG : GoodIn mm_tbl (wsV (mm_own m) idx (mm_y cal).cls (mm_y cal) (mm_ws cal)) := fun w hw => by
    simp only [wsV, List.mem_append, List.mem_cons, List.not_mem_nil, or_false] at hw
    rcases hw with (rfl | rfl | rfl | rfl) | hw
    · exact mm_goodIn _ hlk
    · exact mm_goodIn _ hit
    · exact mm_goodIn _ hse
    · exact mm_goodIn _ hini
    · exact mm_wsGood hcal w hw
  exact mr_after (va_runV (n := n) (As := as) ⟨hx, hb, hml, hown, hts⟩ hM (cwV n hts hG rfl rfl rfl ⟨rfl, mr_d3 hnar⟩ (mr_R hcal hR)) ⟨mm_blind, by rw [hcn]; exact mr_rcv cx0 hr hS h0 hv, mr_pre cx0 hr hS⟩ rfl hn hsz rfl (by show 2 * 0 + mm_sum rest ≤ 8; omega) hdg hf) hS kk
theorem mr_callVN {b rk : Nat} (cx : mm_cx E D dA p s mth args meth c m) (hr : mm_rel E D dA h H) (hS : va_S (mm_A E) s.heap H locs) (hM : Met l (mm_y cal) (mm_ws cal) (mm_rm d mc ms) (mm_Pc E D dA h (.ref b :: as)) (mm_Qc E D dA r h') mc ms (mm_A E)) (hcal : cal < 173) (hlk : va_Nw (.methodLinkNest (mm_own m) idx (mm_y cal) "BoundsPlanner") s) (hit : Cond.instanceMethod (mm_y cal) ∈ mm_tbl) (hse : Cond.selects (mm_y cal).cls (mm_y cal) (mm_y cal) ∈ mm_tbl) (hini : Cond.initialized (mm_y cal).cls ∈ mm_tbl) (hnar : mm_nar1 cal n = true) (hn : as.length = n) (h0 : 0 < rk) (hcn : (mm_y cal).cls = mm_cnm rk) (hv : mm_rcv E h rk (some (.ref b)) = true) (hR : d + 2 ≤ R.frames ∧ 60 * (d + 1) + 60 ≤ R.locals) (hsz : ls.size = mm_maxL m) (hsum : mm_sum rest ≤ 8) (hf : cells + mc ≤ R.cells ∧ slots + ms ≤ R.slots) (hdg : decode (mm_by m) pc = .ok (.invokevirtual idx, 3))
    (kk : ∀ (H1 : Heap) (locs1 : List Loc), mm_rel E D dA h' H1 → va_S (mm_A E) s.heap H1 locs1 → W p l e R s mth args below meth c H1 locs1 (cells + mc) (slots + ms) Q (F0 mth (pc + 3) ls (r.toList ++ rest))) : W p l e R s mth args below meth c H locs cells slots Q (F0 mth pc ls (as.reverse ++ .ref b :: rest)) := by
  have cx0 := cx
  obtain ⟨hx, hb, -, hml, hown, hts, -, -, hK, hE⟩ := cx
  exact mr_after (va_runVN (n := n) (As := as) ⟨hx, hb, hml, hown, hts⟩ hM ⟨va_cnB n hts (mm_wsGood hcal) rfl rfl rfl hlk (hts _ hini) (mr_d3 hnar) (mr_R hcal hR), hts _ hit, hts _ hse⟩ ⟨mm_blind, by rw [hcn]; exact mr_rcv cx0 hr hS h0 hv, mr_pre cx0 hr hS⟩ rfl hn hsz rfl (by show 2 * 0 + mm_sum rest ≤ 8; omega) hdg hf) hS kk
end MR
