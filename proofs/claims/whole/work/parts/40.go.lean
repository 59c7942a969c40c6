/-! REASONING ABOUT THE SMALL MACHINE: mm_Go, an instruction at a time, goal first -/
theorem mm_fuel {E : mmE} : ∀ (f d m : Nat) (is : List mmI) (L S : List Value) (h : mmH) (r : Option Value × mmH), mm_run E f d m is L S h = some r → mm_run E (f + 1) d m is L S h = some r := by
  intro f
  induction f with
  | zero => intro d m is L S h r hr; cases hr
  | succ f ih =>
    intro d m is L S h r hr
    cases is with
    | nil => cases hr
    | cons i is =>
      rw [mm_run_cons] at hr ⊢
      generalize mm_step E L S h i.2.1 i.2.2 = o at hr ⊢
      match o, hr with
      | .inl _, hr => cases hr
      | .inr (.inl (L', S', h')), hr => exact ih _ _ _ _ _ _ _ hr
      | .inr (.inr (.inl (true, b, S'))), hr => exact ih _ _ _ _ _ _ _ hr
      | .inr (.inr (.inl (false, b, S'))), hr => exact ih _ _ _ _ _ _ _ hr
      | .inr (.inr (.inr (.inl (b, S')))), hr => exact ih _ _ _ _ _ _ _ hr
      | .inr (.inr (.inr (.inr (.inl w)))), hr => exact hr
      | .inr (.inr (.inr (.inr (.inr (k, as, r'))))), hr =>
        cases d with
        | zero => cases hr
        | succ d' =>
          have hr : (if (mm_lay as).length ≤ mm_maxL k ∧ (mm_iss.getD k true || mm_hr as) = true then (match mm_run E f d' k (mm_blk k 0) (mm_ent (mm_maxL k) as) [] h with
            | some (v, h') => mm_run E f (d' + 1) m is L (v.toList ++ r') h'
            | none => none) else none) = some r := hr
          show (if (mm_lay as).length ≤ mm_maxL k ∧ (mm_iss.getD k true || mm_hr as) = true then (match mm_run E (f + 1) d' k (mm_blk k 0) (mm_ent (mm_maxL k) as) [] h with
            | some (v, h') => mm_run E (f + 1) (d' + 1) m is L (v.toList ++ r') h'
            | none => none) else none) = some r
          split at hr
          · rename_i hc
            rw [if_pos hc]
            split at hr
            · rename_i v h' hw
              rw [ih _ _ _ _ _ _ _ hw]
              exact ih _ _ _ _ _ _ _ hr
            · cases hr
          · cases hr
theorem mm_fuel_le {E : mmE} {d m : Nat} {is : List mmI} {L S : List Value} {h : mmH} {r : Option Value × mmH} {f g : Nat} (hfg : f ≤ g) (hr : mm_run E f d m is L S h = some r) : mm_run E g d m is L S h = some r := by
  obtain ⟨k, rfl⟩ := Nat.exists_eq_add_of_le hfg
  clear hfg
  induction k with
  | zero => exact hr
  | succ k ih => exact mm_fuel _ _ _ _ _ _ _ _ ih
/-- what is to be shown of an outcome -/
def mm_goO (E : mmE) (d m : Nat) (is : List mmI) (L : List Value) (h : mmH) (Q : Option Value → mmH → Prop) (o : mmO) : Prop := match o with
  | .inl _ => False
  | .inr (.inl (L', S', h')) => mm_Go E d m is L' S' h' Q
  | .inr (.inr (.inl (c, b, S'))) => (c = true → mm_Go E d m (mm_blk m b) L S' h Q) ∧ (c = false → mm_Go E d m is L S' h Q)
  | .inr (.inr (.inr (.inl (b, S')))) => True → mm_Go E d m (mm_blk m b) L S' h Q
  | .inr (.inr (.inr (.inr (.inl v)))) => True → Q v h
  | .inr (.inr (.inr (.inr (.inr (k, as, r'))))) => ∃ d', d = d' + 1 ∧ ((mm_lay as).length ≤ mm_maxL k ∧ (mm_iss.getD k true || mm_hr as) = true) ∧ mm_Go E d' k (mm_blk k 0) (mm_ent (mm_maxL k) as) [] h (fun v h' => mm_Go E d m is L (v.toList ++ r') h' Q)
theorem go_step {E : mmE} {d m : Nat} {i : mmI} {is : List mmI} {L S : List Value} {h : mmH} {Q : Option Value → mmH → Prop} (hg : mm_goO E d m is L h Q (mm_step E L S h i.2.1 i.2.2)) : mm_Go E d m (i :: is) L S h Q := by
  generalize ho : mm_step E L S h i.2.1 i.2.2 = o at hg
  match o, ho, hg with
  | .inl _, ho, hg => exact hg.elim
  | .inr (.inl (L', S', h')), ho, hg =>
    obtain ⟨f, r, h2, e, q⟩ := hg
    exact ⟨f + 1, r, h2, by rw [mm_run_cons, ho]; exact e, q⟩
  | .inr (.inr (.inl (true, b, S'))), ho, hg =>
    obtain ⟨f, r, h2, e, q⟩ := hg.1 rfl
    exact ⟨f + 1, r, h2, by rw [mm_run_cons, ho]; exact e, q⟩
  | .inr (.inr (.inl (false, b, S'))), ho, hg =>
    obtain ⟨f, r, h2, e, q⟩ := hg.2 rfl
    exact ⟨f + 1, r, h2, by rw [mm_run_cons, ho]; exact e, q⟩
  | .inr (.inr (.inr (.inl (b, S')))), ho, hg =>
    obtain ⟨f, r, h2, e, q⟩ := hg trivial
    exact ⟨f + 1, r, h2, by rw [mm_run_cons, ho]; exact e, q⟩
  | .inr (.inr (.inr (.inr (.inl w)))), ho, hg => exact ⟨1, w, h, by rw [mm_run_cons, ho]; rfl, hg trivial⟩
  | .inr (.inr (.inr (.inr (.inr (k, as, r'))))), ho, hg =>
    obtain ⟨d', rfl, hc, f1, v, h1, e1, f2, r, h2, e2, q⟩ := hg
    refine ⟨max f1 f2 + 1, r, h2, ?_, q⟩
    rw [mm_run_cons, ho]
    show (if (mm_lay as).length ≤ mm_maxL k ∧ (mm_iss.getD k true || mm_hr as) = true then (match mm_run E (max f1 f2) d' k (mm_blk k 0) (mm_ent (mm_maxL k) as) [] h with
      | some (v, h') => mm_run E (max f1 f2) (d' + 1) m is L (v.toList ++ r') h'
      | none => none) else none) = some (r, h2)
    rw [if_pos hc, mm_fuel_le (Nat.le_max_left f1 f2) e1]
    exact mm_fuel_le (Nat.le_max_right f1 f2) e2
theorem go_mono {E : mmE} {d m : Nat} {is : List mmI} {L S : List Value} {h : mmH} {Q Q' : Option Value → mmH → Prop} (hg : mm_Go E d m is L S h Q) (hq : ∀ r h', Q r h' → Q' r h') : mm_Go E d m is L S h Q' := by
  obtain ⟨f, r, h', e, q⟩ := hg
  exact ⟨f, r, h', e, hq r h' q⟩
/-- a branch -/
theorem gif {P : Prop} [Decidable P] {A B : Prop} (ht : P → A) (hf : ¬ P → B) : (decide P = true → A) ∧ (decide P = false → B) := ⟨fun q => ht (of_decide_eq_true q), fun q => hf (of_decide_eq_false q)⟩
theorem gjp {A : Prop} (h : A) : True → A := fun _ => h
section GO
variable {E : mmE} {d m idx : Nat} {is : List mmI} {L r : List Value} {h : mmH} {Q : Option Value → mmH → Prop} {ex : List Nat}
theorem g_getf {a : Nat} {fs : List Value} (v : Value) (ha : h.2.2 a = some (.inr (mm_k0 ex, fs))) (h99 : mm_k0 ex ≠ 99) (hv : fs[mm_k1 ex]? = some v) (hg : mm_Go E d m is L (v :: r) h Q) : mm_goO E d m is L h Q (mm_step E L (.ref a :: r) h (.getfield idx) ex) := by
  have e : mm_step E L (.ref a :: r) h (.getfield idx) ex = mm_nx L (v :: r) h := by
    show (if mm_k0 ex = 99 then _ else _) = _
    rw [if_neg h99, ha]
    show (if mm_k0 ex = mm_k0 ex then _ else _) = _
    rw [if_pos rfl, hv]
  rw [e]
  exact hg
theorem g_bald {a t n : Nat} {f : Nat → Int32} {i : Int32} (ha : mm_aI E h a = some (t, n, f)) (ht : t = 0 ∨ t = 2) (hi : mm_in i n = true) (hg : mm_Go E d m is L (.int (f i.toNatClampNeg) :: r) h Q) : mm_goO E d m is L h Q (mm_step E L (.int i :: .ref a :: r) h .baload ex) := by
  have e : mm_step E L (.int i :: .ref a :: r) h .baload ex = mm_nx L (.int (f i.toNatClampNeg) :: r) h := by
    show (match mm_aI E h a with
      | some (t, n, f) => if (t = 0 ∨ t = 2) ∧ mm_in i n = true then mm_nx L (.int (f i.toNatClampNeg) :: r) h else mm_bad
      | none => mm_bad) = _
    rw [ha]
    exact if_pos ⟨ht, hi⟩
  rw [e]
  exact hg
theorem g_alen {a n : Nat} (ha : mm_len E h a = some n) (hg : mm_Go E d m is L (.int (Int32.ofNat n) :: r) h Q) : mm_goO E d m is L h Q (mm_step E L (.ref a :: r) h .arraylength ex) := by
  have e : mm_step E L (.ref a :: r) h .arraylength ex = mm_nx L (.int (Int32.ofNat n) :: r) h := by
    show (match mm_len E h a with
      | some n => mm_nx L (.int (Int32.ofNat n) :: r) h
      | none => mm_bad) = _
    rw [ha]
  rw [e]
  exact hg
end GO
