/-- what an outcome asks for: goes on, jumps, answers, calls -/
def mm_then {α : Type} (o : mmO) (bad : α) (nx : List Value → List Value → mmH → α) (br : Bool → Nat → List Value → α) (jp : Nat → List Value → α) (rt : Option Value → α) (cl : Nat → List Value → List Value → α) : α := match o with
  | .inl _ => bad
  | .inr (.inl (L, S, h)) => nx L S h
  | .inr (.inr (.inl (c, b, S))) => br c b S
  | .inr (.inr (.inr (.inl (b, S)))) => jp b S
  | .inr (.inr (.inr (.inr (.inl v)))) => rt v
  | .inr (.inr (.inr (.inr (.inr (c, as, r))))) => cl c as r
/-- the receiver is there -/
def mm_hr (as : List Value) : Bool := match as with
  | .ref _ :: _ => true
  | _ => false
def mm_run (E : mmE) : Nat → Nat → Nat → List mmI → List Value → List Value → mmH → Option (Option Value × mmH)
  | 0, _, _, _, _, _, _ => none
  | _ + 1, _, _, [], _, _, _ => none
  | f + 1, d, m, i :: is, L, S, h => mm_then (mm_step E L S h i.2.1 i.2.2) none (fun L S h => mm_run E f d m is L S h) (fun c b S => if c then mm_run E f d m (mm_blk m b) L S h else mm_run E f d m is L S h)
      (fun b S => mm_run E f d m (mm_blk m b) L S h) (fun v => some (v, h))
      (fun c as r => match d with
        | 0 => none
        | d' + 1 => if (mm_lay as).length ≤ mm_maxL c ∧ (mm_iss.getD c true || mm_hr as) = true then (match mm_run E f d' c (mm_blk c 0) (mm_ent (mm_maxL c) as) [] h with
          | some (v, h') => mm_run E f d m is L (v.toList ++ r) h'
          | none => none) else none)
def mm_Go (E : mmE) (d m : Nat) (is : List mmI) (L S : List Value) (h : mmH) (Q : Option Value → mmH → Prop) : Prop := ∃ f r h', mm_run E f d m is L S h = some (r, h') ∧ Q r h'
