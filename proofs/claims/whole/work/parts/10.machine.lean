/-! A SMALL MACHINE: the methods' instructions, cut into blocks, over a heap of cells; what it does, the JVM does (mm_sound). -/
abbrev mmC : Type := (Nat × vp_A) ⊕ (Nat × List Value)
/-- next address, slots made so far, the cells -/
abbrev mmH : Type := Nat × Nat × (Nat → Option mmC)
/-- cells that were there before: arrays (kind, length, contents), objects (fields) -/
abbrev mmZ : Type := (Nat × Nat × (Nat → Int32)) ⊕ (Nat → Value)
/-- where the new cells begin, the constants, the old cells (0 arrays, 1 objects) -/
abbrev mmE : Type := Nat × (Nat → Value) × (Nat → Nat → Option mmZ)
/-- pc, instruction, what it is linked to -/
abbrev mmI : Type := Nat × Instr × List Nat
/-- stuck; goes on; branch; jump; return; call -/
abbrev mmO : Type := Unit ⊕ (List Value × List Value × mmH) ⊕ (Bool × Nat × List Value) ⊕ (Nat × List Value) ⊕ (Option Value) ⊕ (Nat × List Value × List Value)
def mm_bad : mmO := .inl ()
def mm_nx (L S : List Value) (h : mmH) : mmO := .inr (.inl (L, S, h))
def mm_br (c : Bool) (b : Nat) (S : List Value) : mmO := .inr (.inr (.inl (c, b, S)))
def mm_jp (b : Nat) (S : List Value) : mmO := .inr (.inr (.inr (.inl (b, S))))
def mm_rt (v : Option Value) : mmO := .inr (.inr (.inr (.inr (.inl v))))
def mm_cl (c : Nat) (as r : List Value) : mmO := .inr (.inr (.inr (.inr (.inr (c, as, r)))))
abbrev mm_un : Value := .retAddr 0
def mm_set (h : mmH) (a : Nat) (c : mmC) : mmH := (h.1, h.2.1, va_up h.2.2 a (some c))
def mm_new (h : mmH) (n : Nat) (c : mmC) : mmH := (h.1 + 1, h.2.1 + n, va_up h.2.2 h.1 (some c))
def mm_wide (v : Value) : Bool := match v with
  | .long _ => true
  | .double _ => true
  | _ => false
/-- a store into a local: a long that stood with its second half there is gone -/
def mm_clr (L : List Value) (i : Nat) : List Value := match i with
  | 0 => L
  | j + 1 => match L[j]? with
    | some v => if mm_wide v then L.set j mm_un else L
    | none => L
def mm_st1 (L : List Value) (i : Nat) (v : Value) : List Value := (mm_clr L i).set i v
def mm_st2 (L : List Value) (i : Nat) (v : Value) : List Value := ((mm_clr L i).set i v).set (i + 1) mm_un
def mm_lay : List Value → List Value
  | [] => []
  | v :: vs => if mm_wide v then v :: mm_un :: mm_lay vs else v :: mm_lay vs
def mm_ent (n : Nat) (as : List Value) : List Value := mm_lay as ++ List.replicate (n - (mm_lay as).length) mm_un
def mm_ref (v : Value) : Bool := match v with
  | .null => true
  | .ref _ => true
  | _ => false
/-- what may be stored in a field, or returned: 0 int, 1 boolean, 2 long, 3 a reference, 4 byte, 5 char -/
def mm_fit (t : Nat) (v : Value) : Bool := match v with
  | .int x => match t with
    | 0 => true
    | 1 => decide (x = 0) || decide (x = 1)
    | 4 => decide (x.toInt8.toInt32 = x)
    | 5 => decide ((x.toUInt32 % 65536).toInt32 = x)
    | _ => false
  | .long _ => match t with
    | 2 => true
    | _ => false
  | .null => match t with
    | 3 => true
    | _ => false
  | .ref _ => match t with
    | 3 => true
    | _ => false
  | _ => false
def mm_vref (r : Option Nat) : Value := va_rf r
def mm_oref (v : Value) : Option (Option Nat) := match v with
  | .null => some none
  | .ref a => some (some a)
  | _ => none
def mm_k0 (ex : List Nat) : Nat := ex.getD 0 0
def mm_k1 (ex : List Nat) : Nat := ex.getD 1 0
def mm_k2 (ex : List Nat) : Nat := ex.getD 2 0
def mm_k3 (ex : List Nat) : Nat := ex.getD 3 0
def mm_ii (S : List Value) (f : Int32 → Int32 → List Value → mmO) : mmO := match S with
  | .int y :: .int x :: r => f x y r
  | _ => mm_bad
def mm_ll (S : List Value) (f : Int64 → Int64 → List Value → mmO) : mmO := match S with
  | .long y :: .long x :: r => f x y r
  | _ => mm_bad
def mm_li (S : List Value) (f : Int64 → Int32 → List Value → mmO) : mmO := match S with
  | .int y :: .long x :: r => f x y r
  | _ => mm_bad
def mm_i (S : List Value) (f : Int32 → List Value → mmO) : mmO := match S with
  | .int x :: r => f x r
  | _ => mm_bad
def mm_l (S : List Value) (f : Int64 → List Value → mmO) : mmO := match S with
  | .long x :: r => f x r
  | _ => mm_bad
def mm_a (S : List Value) (f : Nat → List Value → mmO) : mmO := match S with
  | .ref x :: r => f x r
  | _ => mm_bad
def mm_ia (S : List Value) (f : Int32 → Nat → List Value → mmO) : mmO := match S with
  | .int i :: .ref a :: r => f i a r
  | _ => mm_bad
def mm_in (i : Int32) (n : Nat) : Bool := decide (¬ (i < 0 ∨ n ≤ i.toNatClampNeg))
def mm_ld (L S : List Value) (h : mmH) (i : Nat) (t : Nat) : mmO := match L[i]? with
  | some (.int x) => if t = 0 then mm_nx L (.int x :: S) h else mm_bad
  | some (.long x) => if t = 2 then mm_nx L (.long x :: S) h else mm_bad
  | some .null => if t = 3 then mm_nx L (.null :: S) h else mm_bad
  | some (.ref a) => if t = 3 then mm_nx L (.ref a :: S) h else mm_bad
  | _ => mm_bad
def mm_sto (L S : List Value) (h : mmH) (i : Nat) (t : Nat) : mmO := match S with
  | .int x :: r => if t = 0 ∧ i < L.length then mm_nx (mm_st1 L i (.int x)) r h else mm_bad
  | .long x :: r => if t = 2 ∧ i + 1 < L.length then mm_nx (mm_st2 L i (.long x)) r h else mm_bad
  | .null :: r => if t = 3 ∧ i < L.length then mm_nx (mm_st1 L i .null) r h else mm_bad
  | .ref a :: r => if t = 3 ∧ i < L.length then mm_nx (mm_st1 L i (.ref a)) r h else mm_bad
  | _ => mm_bad
def mm_con (c : ClassFile.Cond) (x y : Int32) : Bool := match c with
  | .eq => decide (x = y)
  | .ne => decide (¬ x = y)
  | .lt => decide (x < y)
  | .ge => decide (y ≤ x)
  | .gt => decide (y < x)
  | .le => decide (x ≤ y)
def mm_acm (c : ClassFile.ACond) (x y : Option Nat) : Bool := match c with
  | .eq => decide (x = y)
  | .ne => decide (¬ x = y)
def mm_sw (d : Nat) (lo : Int) (bs : List Nat) (x : Int32) : Nat := if x.toInt < lo then d else bs.getD (x.toInt - lo).toNat d
