/-! BOUNDS AS NUMBERS: where an interval begins and where it stops -/
def ePos (O : Nat → Nat) (x : qE) : Nat := 4096 * x.1 + (if x.2.1 = 0 then 0 else if x.2.1 = 1 then 1 + O x.2.2.2 else 4095)
def eLo (O : Nat → Nat) (x : qE) : Nat := 2 * ePos O x + (1 - x.2.2.1)
def eHi (O : Nat → Nat) (x : qE) : Nat := 2 * ePos O x + x.2.2.1
/-- the numbers O are the order ob of the places P -/
def oIs (ob : Nat → Nat → Int32) (P : Nat → Prop) (O : Nat → Nat) : Prop := (∀ x, P x → O x ≤ 1000) ∧ ∀ x y, P x → P y → q_c3 (O x) (O y) = ob x y
def eOk (P : Nat → Prop) (x : qE) : Prop := x.1 ≤ 6 ∧ x.2.1 ≤ 2 ∧ x.2.2.1 ≤ 1 ∧ (x.2.1 = 1 → P x.2.2.2)
theorem c3_eq {a b c d : Nat} (h1 : a < b ↔ c < d) (h2 : a = b ↔ c = d) : q_c3 a b = q_c3 c d := by
  unfold q_c3
  simp only [h1, h2]
theorem c3_neg {x y : Nat} : q_c3 x y < 0 ↔ x < y := by
  unfold q_c3
  split
  · exact ⟨fun _ => ‹_›, fun _ => by decide⟩
  · split
    · exact ⟨fun q => absurd q (by decide), fun q => by omega⟩
    · exact ⟨fun q => absurd q (by decide), fun q => by omega⟩
theorem c3_pos {x y : Nat} : 0 < q_c3 x y ↔ y < x := by
  unfold q_c3
  split
  · exact ⟨fun q => absurd q (by decide), fun q => by omega⟩
  · split
    · exact ⟨fun q => absurd q (by decide), fun q => by omega⟩
    · exact ⟨fun _ => by omega, fun _ => by decide⟩
section K
variable {ob : Nat → Nat → Int32} {P : Nat → Prop} {O B : Nat → Nat}
theorem ePos_b (hO : oIs ob P O) {x : qE} (hx : eOk P x) : 4096 * x.1 ≤ ePos O x ∧ ePos O x ≤ 4096 * x.1 + 4095 := by
  unfold ePos
  split
  · omega
  · split
    · have := hO.1 _ (hx.2.2.2 ‹_›)
      omega
    · omega
theorem eLo_b (hO : oIs ob P O) {x : qE} (hx : eOk P x) : 8192 * x.1 ≤ eLo O x ∧ eLo O x ≤ 8192 * x.1 + 8191 := by
  have := ePos_b hO hx
  unfold eLo
  omega
theorem eHi_b (hO : oIs ob P O) {x : qE} (hx : eOk P x) : 8192 * x.1 ≤ eHi O x ∧ eHi O x ≤ 8192 * x.1 + 8191 := by
  have := ePos_b hO hx
  have := hx.2.2.1
  unfold eHi
  omega
theorem std_pos (hO : oIs ob P O) {x y : qE} (hx : eOk P x) (hy : eOk P y) : q_std ob x y = q_c3 (ePos O x) (ePos O y) := by
  have b1 := ePos_b hO hx
  have b2 := ePos_b hO hy
  unfold q_std
  split
  · refine c3_eq ?_ ?_ <;> constructor <;> intro q <;> omega
  · rename_i h1
    have h1 : x.1 = y.1 := Decidable.not_not.mp h1
    have hx1 := hx.2.1
    have hy1 := hy.2.1
    split
    · rename_i h2
      have g : ∀ z : qE, eOk P z → ePos O z - 4096 * z.1 = (if z.2.1 = 0 then 0 else if z.2.1 = 1 then 1 + O z.2.2.2 else 4095) ∧ (z.2.1 = 1 → O z.2.2.2 ≤ 1000) := fun z hz => ⟨by unfold ePos; omega, fun q => hO.1 _ (hz.2.2.2 q)⟩
      have g1 := g x hx
      have g2 := g y hy
      have e : ∀ z : qE, z.2.1 = 0 ∨ z.2.1 = 1 ∨ z.2.1 = 2 → eOk P z → (z.2.1 = 0 ∧ ePos O z = 4096 * z.1) ∨ (z.2.1 = 1 ∧ 4096 * z.1 < ePos O z ∧ ePos O z < 4096 * z.1 + 4095) ∨ (z.2.1 = 2 ∧ ePos O z = 4096 * z.1 + 4095) := by
        intro z hz hk
        rcases hz with q | q | q
        · exact Or.inl ⟨q, by unfold ePos; rw [if_pos q]; omega⟩
        · have := hO.1 _ (hk.2.2.2 q)
          exact Or.inr (Or.inl ⟨q, by unfold ePos; rw [if_neg (by omega), if_pos q]; omega, by unfold ePos; rw [if_neg (by omega), if_pos q]; omega⟩)
        · exact Or.inr (Or.inr ⟨q, by unfold ePos; rw [if_neg (by omega), if_neg (by omega)]⟩)
      have e1 := e x (by omega) hx
      have e2 := e y (by omega) hy
      refine c3_eq ?_ ?_ <;> constructor <;> intro q <;> omega
    · rename_i h2
      have h2 : x.2.1 = y.2.1 := Decidable.not_not.mp h2
      split
      · rename_i h3
        rw [← hO.2 _ _ (hx.2.2.2 h3) (hy.2.2.2 (h2 ▸ h3))]
        unfold ePos
        have h4 : y.2.1 = 1 := by omega
        rw [if_neg (show ¬ x.2.1 = 0 by omega), if_neg (show ¬ y.2.1 = 0 by omega), if_pos h3, if_pos h4]
        refine c3_eq ?_ ?_ <;> constructor <;> intro q <;> omega
      · rename_i h3
        refine (q_c3_0.mpr ?_).symm
        unfold ePos
        rw [h1, h2]
        rw [h2] at h3
        rw [if_neg h3, if_neg h3]
theorem lowB_is (hO : oIs ob P O) {x y : qE} (hx : eOk P x) (hy : eOk P y) : q_lowB ob x y = decide (eLo O x < eLo O y) := by
  have hi := hx.2.2.1
  have hj := hy.2.2.1
  unfold q_lowB eLo
  rw [std_pos hO hx hy, Bool.eq_iff_iff]
  simp only [Bool.or_eq_true, Bool.and_eq_true, decide_eq_true_eq, c3_neg, q_c3_0]
  omega
theorem highB_is (hO : oIs ob P O) {x y : qE} (hx : eOk P x) (hy : eOk P y) : q_highB ob x y = decide (eHi O y < eHi O x) := by
  have hi := hx.2.2.1
  have hj := hy.2.2.1
  unfold q_highB eHi
  rw [std_pos hO hx hy, Bool.eq_iff_iff]
  simp only [Bool.or_eq_true, Bool.and_eq_true, decide_eq_true_eq, c3_pos, q_c3_0]
  omega
theorem way_is (hO : oIs ob P O) {x y : qE} (hx : eOk P x) (hy : eOk P y) : q_way ob x y = decide (eLo O x < eHi O y) := by
  have hi := hx.2.2.1
  have hj := hy.2.2.1
  unfold q_way eLo eHi
  rw [std_pos hO hx hy, Bool.eq_iff_iff]
  simp only [Bool.or_eq_true, Bool.and_eq_true, decide_eq_true_eq, c3_neg, q_c3_0]
  omega
/-- an interval with something in it -/
def rOk (P : Nat → Prop) (O : Nat → Nat) (r : qR) : Prop := eOk P r.1 ∧ eOk P r.2 ∧ r.1.1 = r.2.1 ∧ eLo O r.1 < eHi O r.2
def rM (O : Nat → Nat) (x y : qR) : qR := (if eLo O x.1 < eLo O y.1 then y.1 else x.1, if eHi O y.2 < eHi O x.2 then y.2 else x.2)
theorem rM_lo (O : Nat → Nat) (x y : qR) : eLo O (rM O x y).1 = max (eLo O x.1) (eLo O y.1) := by
  unfold rM
  dsimp only
  split <;> omega
theorem rM_hi (O : Nat → Nat) (x y : qR) : eHi O (rM O x y).2 = min (eHi O x.2) (eHi O y.2) := by
  unfold rM
  dsimp only
  split <;> omega
theorem met_is (hO : oIs ob P O) {x y : qR} (hx : rOk P O x) (hy : rOk P O y) : q_met ob x y = if max (eLo O x.1) (eLo O y.1) < min (eHi O x.2) (eHi O y.2) then some (rM O x y) else none := by
  have e1 : q_mlow ob x y = (rM O x y).1 := by
    unfold q_mlow rM
    rw [lowB_is hO hx.1 hy.1]
    simp only [decide_eq_true_eq]
  have e2 : q_mhigh ob x y = (rM O x y).2 := by
    unfold q_mhigh rM
    rw [highB_is hO hx.2.1 hy.2.1]
    simp only [decide_eq_true_eq]
  have k1 : eOk P (rM O x y).1 := by
    unfold rM
    dsimp only
    split
    · exact hy.1
    · exact hx.1
  have k2 : eOk P (rM O x y).2 := by
    unfold rM
    dsimp only
    split
    · exact hy.2.1
    · exact hx.2.1
  unfold q_met
  rw [e1, e2, way_is hO k1 k2, rM_lo, rM_hi]
  simp only [decide_eq_true_eq]
theorem met_ok (hO : oIs ob P O) {x y r : qR} (hx : rOk P O x) (hy : rOk P O y) (h : q_met ob x y = some r) : rOk P O r ∧ r.1.1 = x.1.1 ∧ eLo O r.1 = max (eLo O x.1) (eLo O y.1) ∧ eHi O r.2 = min (eHi O x.2) (eHi O y.2) := by
  rw [met_is hO hx hy] at h
  split at h
  · rename_i c
    cases h
    have a1 := eLo_b hO hx.1
    have a2 := eHi_b hO hx.2.1
    have a3 := eLo_b hO hy.1
    have a4 := eHi_b hO hy.2.1
    have c1 := hx.2.2.1
    have c2 := hy.2.2.1
    have cc : x.1.1 = y.1.1 := by omega
    refine ⟨⟨?_, ?_, ?_, by rw [rM_lo, rM_hi]; exact c⟩, ?_, rM_lo _ _ _, rM_hi _ _ _⟩
    · unfold rM
      dsimp only
      split
      · exact hy.1
      · exact hx.1
    · unfold rM
      dsimp only
      split
      · exact hy.2.1
      · exact hx.2.1
    · unfold rM
      dsimp only
      split <;> split <;> omega
    · unfold rM
      dsimp only
      split <;> omega
  · cases h
/-- a row of intervals, the least first -/
def rSd (P : Nat → Prop) (O : Nat → Nat) (l : List qR) : Prop := (∀ r ∈ l, rOk P O r) ∧ l.Pairwise (fun x y => eHi O x.2 ≤ eLo O y.1)
theorem meet_sd (hO : oIs ob P O) {a b : List qR} (ha : rSd P O a) (hb : rSd P O b) : rSd P O (q_meet ob a b) ∧ ∀ r ∈ q_meet ob a b, ∃ x ∈ a, r.1.1 = x.1.1 := by
  unfold q_meet
  refine ⟨⟨fun r hr => ?_, ?_⟩, fun r hr => ?_⟩
  · obtain ⟨x, hx, hr⟩ := List.mem_flatMap.mp hr
    obtain ⟨y, hy, hr⟩ := List.mem_filterMap.mp hr
    exact (met_ok hO (ha.1 x hx) (hb.1 y hy) hr).1
  · rw [List.pairwise_flatMap]
    refine ⟨fun x hx => ?_, ?_⟩
    · rw [List.pairwise_filterMap]
      refine hb.2.imp_of_mem (fun {y z} hy hz q r hr s hs => ?_)
      have h1 := met_ok hO (ha.1 x hx) (hb.1 y hy) hr
      have h2 := met_ok hO (ha.1 x hx) (hb.1 z hz) hs
      omega
    · refine ha.2.imp_of_mem (fun {x w} hx hw q r hr s hs => ?_)
      obtain ⟨y, hy, hr⟩ := List.mem_filterMap.mp hr
      obtain ⟨z, hz, hs⟩ := List.mem_filterMap.mp hs
      have h1 := met_ok hO (ha.1 x hx) (hb.1 y hy) hr
      have h2 := met_ok hO (ha.1 w hw) (hb.1 z hz) hs
      omega
  · obtain ⟨x, hx, hr⟩ := List.mem_flatMap.mp hr
    obtain ⟨y, hy, hr⟩ := List.mem_filterMap.mp hr
    exact ⟨x, hx, (met_ok hO (ha.1 x hx) (hb.1 y hy) hr).2.1⟩
theorem cnt1 {α : Type} {p : α → Bool} : ∀ {l : List α}, l.Pairwise (fun x y => p x = true → p y = true → False) → l.countP p ≤ 1 := by
  intro l h
  induction h with
  | nil => exact Nat.zero_le _
  | cons h1 h2 ih =>
    rename_i x l
    rw [List.countP_cons]
    split
    · rename_i hx
      have : l.countP p = 0 := List.countP_eq_zero.mpr (fun y hy q => h1 y hy hx q)
      omega
    · omega
theorem cnt2 {α β : Type} (p : α → β → Bool) (b : List β) : ∀ a : List α, (a.map (fun x => b.countP (p x))).sum = (b.map (fun y => a.countP (fun x => p x y))).sum := by
  intro a
  induction a with
  | nil =>
    induction b with
    | nil => rfl
    | cons y b ih => rw [List.map_cons, List.sum_cons, ← ih]; rfl
  | cons x a ih =>
    rw [List.map_cons, List.sum_cons, ih]
    clear ih
    induction b with
    | nil => rfl
    | cons y b ih =>
      rw [List.map_cons, List.sum_cons, List.map_cons, List.sum_cons, ← ih, List.countP_cons, List.countP_cons]
      omega
theorem sum_le {α : Type} {f : α → Nat} {c : Nat} : ∀ {l : List α}, (∀ x ∈ l, f x ≤ c) → (l.map f).sum ≤ c * l.length := by
  intro l
  induction l with
  | nil => intro _; simp
  | cons x l ih =>
    intro h
    rw [List.map_cons, List.sum_cons, List.length_cons, Nat.mul_succ]
    have h1 := h x List.mem_cons_self
    have h2 := ih (fun y hy => h y (List.mem_cons_of_mem x hy))
    omega
theorem sum_le2 {α : Type} {f g k : α → Nat} : ∀ {l : List α}, (∀ x ∈ l, f x ≤ g x + k x) → (l.map f).sum ≤ (l.map g).sum + (l.map k).sum := by
  intro l
  induction l with
  | nil => intro _; simp
  | cons x l ih =>
    intro h
    simp only [List.map_cons, List.sum_cons]
    have h1 := h x List.mem_cons_self
    have h2 := ih (fun y hy => h y (List.mem_cons_of_mem x hy))
    omega
theorem cnt_or {α : Type} {p q r : α → Bool} : ∀ {l : List α}, (∀ x ∈ l, p x = true → q x = true ∨ r x = true) → l.countP p ≤ l.countP q + l.countP r := by
  intro l
  induction l with
  | nil => intro _; simp
  | cons x l ih =>
    intro h
    simp only [List.countP_cons]
    have h1 := h x List.mem_cons_self
    have h2 := ih (fun y hy => h y (List.mem_cons_of_mem x hy))
    cases hp : p x with
    | false => simp; omega
    | true =>
      rcases h1 hp with q | q <;> rw [q] <;> simp <;> split <;> omega
/-- y stops within x; x stops within y; y begins within x -/
def rA (O : Nat → Nat) (x y : qR) : Bool := decide (eLo O x.1 < eHi O y.2) && decide (eHi O y.2 < eHi O x.2)
def rB (O : Nat → Nat) (x y : qR) : Bool := decide (eLo O y.1 < eHi O x.2) && decide (eHi O x.2 ≤ eHi O y.2)
def rC (O : Nat → Nat) (x y : qR) : Bool := decide (eLo O x.1 < eLo O y.1) && decide (eLo O y.1 < eHi O x.2)
theorem cnt_A {a : List qR} (ha : rSd P O a) (y : qR) : a.countP (fun x => rA O x y) ≤ 1 := by
  refine cnt1 (ha.2.imp (fun {x z} q hx hz => ?_))
  simp only [rA, Bool.and_eq_true, decide_eq_true_eq] at hx hz
  omega
theorem cnt_B {b : List qR} (hb : rSd P O b) (x : qR) : b.countP (rB O x) ≤ 1 := by
  refine cnt1 (hb.2.imp (fun {y z} q hy hz => ?_))
  simp only [rB, Bool.and_eq_true, decide_eq_true_eq] at hy hz
  omega
theorem cnt_C {a : List qR} (ha : rSd P O a) (y : qR) : a.countP (fun x => rC O x y) ≤ 1 := by
  refine cnt1 (ha.2.imp (fun {x z} q hx hz => ?_))
  simp only [rC, Bool.and_eq_true, decide_eq_true_eq] at hx hz
  omega
theorem meet_len (hO : oIs ob P O) {a b : List qR} (ha : rSd P O a) (hb : rSd P O b) : (q_meet ob a b).length ≤ a.length + b.length := by
  have h1 : (a.map (fun x => (b.filterMap (fun y => q_met ob x y)).length)).sum ≤ (a.map (fun x => b.countP (rB O x))).sum + (a.map (fun x => b.countP (rA O x))).sum := by
    refine sum_le2 (fun x hx => ?_)
    rw [List.length_filterMap_eq_countP]
    refine cnt_or (fun y hy q => ?_)
    rw [met_is hO (ha.1 x hx) (hb.1 y hy)] at q
    simp only [rA, rB, Bool.and_eq_true, decide_eq_true_eq]
    split at q
    · omega
    · cases q
  have h2 : (a.map (fun x => b.countP (rB O x))).sum ≤ 1 * a.length := sum_le (fun x _ => cnt_B hb x)
  have h3 : (a.map (fun x => b.countP (rA O x))).sum ≤ 1 * b.length := by
    rw [cnt2]
    exact sum_le (fun y _ => cnt_A ha y)
  unfold q_meet
  rw [List.length_flatMap]
  omega
/-- the intervals that meeting makes anew -/
def rNw (O : Nat → Nat) (x y : qR) : Bool := rA O x y || rC O x y
def rNws (O : Nat → Nat) (a b : List qR) : Nat := (a.map (fun x => b.countP (rNw O x))).sum
theorem nw_le {a b : List qR} (ha : rSd P O a) : rNws O a b ≤ 2 * b.length := by
  have h1 : rNws O a b ≤ (a.map (fun x => b.countP (rA O x))).sum + (a.map (fun x => b.countP (rC O x))).sum := sum_le2 (fun x _ => cnt_or (fun y _ q => by
    simp only [rNw, Bool.or_eq_true] at q
    exact q))
  rw [cnt2 (rA O) b a, cnt2 (rC O) b a] at h1
  have h2 : (b.map (fun y => a.countP (fun x => rA O x y))).sum ≤ 1 * b.length := sum_le (fun y _ => cnt_A ha y)
  have h3 : (b.map (fun y => a.countP (fun x => rC O x y))).sum ≤ 1 * b.length := sum_le (fun y _ => cnt_C ha y)
  omega
end K
