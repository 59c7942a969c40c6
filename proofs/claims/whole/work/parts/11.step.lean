/-- an array of ints, bytes or booleans: its kind (0 byte, 1 int, 2 boolean, 3 of references), length, contents; new or old -/
def mm_aI (E : mmE) (h : mmH) (a : Nat) : Option (Nat × Nat × (Nat → Int32)) := match h.2.2 a with
  | some (.inl (t, n, .inl f)) => some (t, n, f)
  | some _ => none
  | none => match E.2.2 0 a with
    | some (.inl x) => some x
    | _ => none
def mm_len (E : mmE) (h : mmH) (a : Nat) : Option Nat := match h.2.2 a with
  | some (.inl (_, n, _)) => some n
  | some (.inr _) => none
  | none => match E.2.2 0 a with
    | some (.inl (_, n, _)) => some n
    | _ => none
/-- what a store into an array of that kind keeps of a number -/
def mm_nar (t : Nat) (x : Int32) : Int32 := match t with
  | 0 => vp_nar .byte x
  | 2 => vp_nar .boolean x
  | _ => x
/-- what may lie below the arguments of a call -/
def mm_lim (k : Nat) : Nat := if k = 0 then 8 else 12
theorem mm_lim_le (k : Nat) : mm_lim k ≤ 12 := by unfold mm_lim; split <;> omega
def mm_sum (S : List Value) : Nat := (S.map fun v => v.category).sum
/-- may an object stand in an array of references of that kind (3 Object, 4 Path: class 1) -/
def mm_may (h : mmH) (t b : Nat) : Bool := match h.2.2 b with
  | some (.inr (ci, _)) => (t == 3 && ci != 3) || (t == 4 && ci == 1)
  | _ => false
def mm_rcv (E : mmE) (h : mmH) (rk : Nat) (v : Option Value) : Bool := match v with
  | some (.ref b) => if rk = 100 then (match E.2.2 1 b with
      | some (.inr _) => decide (b < E.1)
      | _ => false) else (match h.2.2 b with
      | some (.inr (ci, _)) => ci + 1 == rk
      | _ => false)
  | _ => false
def mm_call (E : mmE) (L S : List Value) (h : mmH) (ex : List Nat) : mmO :=
  if mm_k1 ex ≤ S.length ∧ mm_sum (S.drop (mm_k1 ex)) ≤ mm_lim (mm_k2 ex) ∧ (mm_k2 ex = 0 ∨ mm_rcv E h (mm_k2 ex) (S[mm_k1 ex - 1]?) = true) then mm_cl (mm_k0 ex) (S.take (mm_k1 ex)).reverse (S.drop (mm_k1 ex)) else mm_bad
/-- System.arraycopy between two new arrays of one kind -/
def mm_copy (L S : List Value) (h : mmH) : mmO := match S with
  | .int n :: .int dp :: .ref a :: .int sp :: .ref b :: r => match h.2.2 b, h.2.2 a with
    | some (.inl (t0, n0, .inl f)), some (.inl (t1, n1, .inl g)) =>
      if ¬ sp < 0 ∧ ¬ dp < 0 ∧ ¬ n < 0 ∧ t0 = t1 ∧ t0 < 2 ∧ sp.toNatClampNeg + n.toNatClampNeg ≤ n0 ∧ dp.toNatClampNeg + n.toNatClampNeg ≤ n1 ∧ mm_sum r ≤ 8 then
        mm_nx L r (mm_set h a (.inl (t1, n1, .inl (va_cpy f g sp.toNatClampNeg dp.toNatClampNeg n.toNatClampNeg)))) else mm_bad
    | some (.inl (t0, n0, .inr (.inr (.inr (.inr f))))), some (.inl (t1, n1, .inr (.inr (.inr (.inr g))))) =>
      if ¬ sp < 0 ∧ ¬ dp < 0 ∧ ¬ n < 0 ∧ t0 = 3 ∧ t1 = 3 ∧ sp.toNatClampNeg + n.toNatClampNeg ≤ n0 ∧ dp.toNatClampNeg + n.toNatClampNeg ≤ n1 ∧ mm_sum r ≤ 8 then
        mm_nx L r (mm_set h a (.inl (t1, n1, .inr (.inr (.inr (.inr (va_cpy f g sp.toNatClampNeg dp.toNatClampNeg n.toNatClampNeg))))))) else mm_bad
    | _, _ => mm_bad
  | _ => mm_bad
def mm_step (E : mmE) (L S : List Value) (h : mmH) (ins : Instr) (ex : List Nat) : mmO := match ins with
  | .nop => mm_jp (mm_k0 ex) S
  | .aconst_null => mm_nx L (.null :: S) h
  | .iconst n => mm_nx L (.int (Int32.ofInt n) :: S) h
  | .lconst n => mm_nx L (.long (Int64.ofNat n.val) :: S) h
  | .bipush n => mm_nx L (.int (Int8.ofInt n).toInt32 :: S) h
  | .sipush n => mm_nx L (.int (Int16.ofInt n).toInt32 :: S) h
  | .ldc _ => if mm_k0 ex = 0 then mm_nx L (.int (Int32.ofNat (mm_k1 ex)) :: S) h else mm_nx L (E.2.1 (mm_k1 ex) :: S) h
  | .ldc2_w _ => mm_nx L (.long (Int64.ofNat (mm_k0 ex)) :: S) h
  | .getstatic _ => mm_nx L (E.2.1 (mm_k0 ex) :: S) h
  | .iload i => mm_ld L S h i 0
  | .iload_n i => mm_ld L S h i.val 0
  | .lload i => mm_ld L S h i 2
  | .lload_n i => mm_ld L S h i.val 2
  | .aload i => mm_ld L S h i 3
  | .aload_n i => mm_ld L S h i.val 3
  | .istore i => mm_sto L S h i 0
  | .istore_n i => mm_sto L S h i.val 0
  | .lstore i => mm_sto L S h i 2
  | .lstore_n i => mm_sto L S h i.val 2
  | .astore i => mm_sto L S h i 3
  | .astore_n i => mm_sto L S h i.val 3
  | .iinc i n => match L[i]? with
    | some (.int x) => mm_nx (mm_st1 L i (.int (x + Int32.ofInt n))) S h
    | _ => mm_bad
  | .pop => match S with
    | v :: r => if mm_wide v then mm_bad else mm_nx L r h
    | _ => mm_bad
  | .dup => match S with
    | v :: r => if mm_wide v then mm_bad else mm_nx L (v :: v :: r) h
    | _ => mm_bad
  | .dup_x1 => match S with
    | v :: w :: r => if mm_wide v || mm_wide w then mm_bad else mm_nx L (v :: w :: v :: r) h
    | _ => mm_bad
  | .dup2 => match S with
    | v :: w :: r => if mm_wide v || mm_wide w then mm_bad else mm_nx L (v :: w :: v :: w :: r) h
    | _ => mm_bad
  | .iadd => mm_ii S fun x y r => mm_nx L (.int (x + y) :: r) h
  | .isub => mm_ii S fun x y r => mm_nx L (.int (x - y) :: r) h
  | .imul => mm_ii S fun x y r => mm_nx L (.int (x * y) :: r) h
  | .idiv => mm_ii S fun x y r => if y = 0 then mm_bad else mm_nx L (.int (x / y) :: r) h
  | .irem => mm_ii S fun x y r => if y = 0 then mm_bad else mm_nx L (.int (x - x / y * y) :: r) h
  | .iand => mm_ii S fun x y r => mm_nx L (.int (x &&& y) :: r) h
  | .ior => mm_ii S fun x y r => mm_nx L (.int (x ||| y) :: r) h
  | .ishl => mm_ii S fun x y r => mm_nx L (.int (x <<< (y &&& 31)) :: r) h
  | .ishr => mm_ii S fun x y r => mm_nx L (.int (x >>> (y &&& 31)) :: r) h
  | .iushr => mm_ii S fun x y r => mm_nx L (.int (x.toUInt32 >>> (y.toUInt32 &&& Int32.toUInt32 31)).toInt32 :: r) h
  | .ladd => mm_ll S fun x y r => mm_nx L (.long (x + y) :: r) h
  | .lmul => mm_ll S fun x y r => mm_nx L (.long (x * y) :: r) h
  | .land => mm_ll S fun x y r => mm_nx L (.long (x &&& y) :: r) h
  | .lor => mm_ll S fun x y r => mm_nx L (.long (x ||| y) :: r) h
  | .lshl => mm_li S fun x y r => mm_nx L (.long (x <<< (y.toInt64 &&& 63)) :: r) h
  | .lshr => mm_li S fun x y r => mm_nx L (.long (x >>> (y.toInt64 &&& 63)) :: r) h
  | .lcmp => mm_ll S fun x y r => mm_nx L (.int (lg_cmp x y) :: r) h
  | .i2l => mm_i S fun x r => mm_nx L (.long x.toInt64 :: r) h
  | .l2i => mm_l S fun x r => mm_nx L (.int x.toInt32 :: r) h
  | .i2b => mm_i S fun x r => mm_nx L (.int x.toInt8.toInt32 :: r) h
  | .i2c => mm_i S fun x r => mm_nx L (.int (x.toUInt32 % 65536).toInt32 :: r) h
  | .goto _ => mm_jp (mm_k0 ex) S
  | .ifCond c _ => mm_i S fun x r => mm_br (mm_con c x 0) (mm_k0 ex) r
  | .if_icmp c _ => mm_ii S fun x y r => mm_br (mm_con c x y) (mm_k0 ex) r
  | .if_acmp c _ => match S with
    | w :: v :: r => match mm_oref v, mm_oref w with
      | some x, some y => mm_br (mm_acm c x y) (mm_k0 ex) r
      | _, _ => mm_bad
    | _ => mm_bad
  | .ifnull _ => match S with
    | .null :: r => mm_br true (mm_k0 ex) r
    | .ref _ :: r => mm_br false (mm_k0 ex) r
    | _ => mm_bad
  | .ifnonnull _ => match S with
    | .null :: r => mm_br false (mm_k0 ex) r
    | .ref _ :: r => mm_br true (mm_k0 ex) r
    | _ => mm_bad
  | .tableswitch _ lo _ _ => mm_i S fun x r => mm_jp (mm_sw (mm_k0 ex) lo ex.tail x) r
  | .arraylength => mm_a S fun a r => match mm_len E h a with
    | some n => mm_nx L (.int (Int32.ofNat n) :: r) h
    | none => mm_bad
  | .iaload => mm_ia S fun i a r => match mm_aI E h a with
    | some (t, n, f) => if t = 1 ∧ mm_in i n = true then mm_nx L (.int (f i.toNatClampNeg) :: r) h else mm_bad
    | none => mm_bad
  | .baload => mm_ia S fun i a r => match mm_aI E h a with
    | some (t, n, f) => if (t = 0 ∨ t = 2) ∧ mm_in i n = true then mm_nx L (.int (f i.toNatClampNeg) :: r) h else mm_bad
    | none => mm_bad
  | .aaload => mm_ia S fun i a r => match h.2.2 a with
    | some (.inl (_, n, .inr (.inr (.inr (.inr f))))) => if mm_in i n = true then mm_nx L (va_rf (f i.toNatClampNeg) :: r) h else mm_bad
    | _ => mm_bad
  | .iastore => mm_i S fun x S => mm_ia S fun i a r => match h.2.2 a with
    | some (.inl (t, n, .inl f)) => if t = 1 ∧ mm_in i n = true then mm_nx L r (mm_set h a (.inl (t, n, .inl (upd f i.toNatClampNeg x)))) else mm_bad
    | _ => mm_bad
  | .bastore => mm_i S fun x S => mm_ia S fun i a r => match h.2.2 a with
    | some (.inl (t, n, .inl f)) => if (t = 0 ∨ t = 2) ∧ mm_in i n = true then mm_nx L r (mm_set h a (.inl (t, n, .inl (upd f i.toNatClampNeg (mm_nar t x))))) else mm_bad
    | _ => mm_bad
  | .aastore => match S with
    | v :: S => mm_ia S fun i a r => match h.2.2 a with
      | some (.inl (t, n, .inr (.inr (.inr (.inr f))))) => match v with
        | .null => if mm_in i n = true then mm_nx L r (mm_set h a (.inl (t, n, .inr (.inr (.inr (.inr (va_up f i.toNatClampNeg none))))))) else mm_bad
        | .ref b => if mm_in i n = true ∧ mm_may h t b = true then mm_nx L r (mm_set h a (.inl (t, n, .inr (.inr (.inr (.inr (va_up f i.toNatClampNeg (some b)))))))) else mm_bad
        | _ => mm_bad
      | _ => mm_bad
    | _ => mm_bad
  | .getfield _ => mm_a S fun a r => if mm_k0 ex = 99 then (match E.2.2 1 a with
      | some (.inr fs) => if a < E.1 then mm_nx L (fs (mm_k1 ex) :: r) h else mm_bad
      | _ => mm_bad) else (match h.2.2 a with
      | some (.inr (ci, fs)) => if ci = mm_k0 ex then (match fs[mm_k1 ex]? with
        | some v => mm_nx L (v :: r) h
        | none => mm_bad) else mm_bad
      | _ => mm_bad)
  | .putfield _ => match S with
    | v :: S => mm_a S fun a r => match h.2.2 a with
      | some (.inr (ci, fs)) => if ci = mm_k0 ex ∧ mm_k1 ex < fs.length ∧ mm_fit (mm_k2 ex) v = true then mm_nx L r (mm_set h a (.inr (ci, fs.set (mm_k1 ex) v))) else mm_bad
      | _ => mm_bad
    | _ => mm_bad
  | .new _ => mm_nx L (.ref h.1 :: S) (mm_new h (mm_defs (mm_k0 ex)).length (.inr (mm_k0 ex, mm_defs (mm_k0 ex))))
  | .newarray _ => mm_i S fun n r => if n < 0 ∨ 1000000 < n then mm_bad else mm_nx L (.ref h.1 :: r) (mm_new h n.toNatClampNeg (.inl (mm_k0 ex, n.toNatClampNeg, .inl fun _ => 0)))
  | .anewarray _ => mm_i S fun n r => if n < 0 ∨ 1000000 < n then mm_bad else mm_nx L (.ref h.1 :: r) (mm_new h n.toNatClampNeg (.inl (mm_k0 ex, n.toNatClampNeg, .inr (.inr (.inr (.inr fun _ => none))))))
  | .checkcast _ => match S with
    | .null :: r => mm_nx L (.null :: r) h
    | .ref a :: r => match h.2.2 a with
      | some (.inr (ci, _)) => if mm_k0 ex = 0 ∧ ci = mm_k1 ex then mm_nx L (.ref a :: r) h else mm_bad
      | some (.inl (t, _)) => if mm_k0 ex = 1 ∧ t = mm_k1 ex then mm_nx L (.ref a :: r) h else mm_bad
      | none => mm_bad
    | _ => mm_bad
  | .invokestatic _ => if mm_k0 ex = 1000 then mm_copy L S h else mm_call E L S h ex
  | .invokevirtual _ => if mm_k0 ex = 1001 then (mm_a S fun a r => match h.2.2 a with
      | some (.inl (t, n, .inl f)) => if t = 0 ∧ mm_sum r ≤ 8 then mm_nx L (.ref h.1 :: r) (mm_new h n (.inl (t, n, .inl f))) else mm_bad
      | _ => mm_bad) else if mm_k0 ex = 1002 then (mm_a S fun a r => match h.2.2 a with
      | some (.inl (t, _)) => if t = 3 ∧ mm_sum r ≤ 8 then mm_nx L (E.2.1 (mm_k1 ex) :: r) h else mm_bad
      | _ => mm_bad) else mm_call E L S h ex
  | .invokespecial _ => if mm_k0 ex = 1003 then (mm_a S fun _ r => if mm_sum r ≤ 8 then mm_nx L r h else mm_bad) else mm_call E L S h ex
  | .ireturn => match S with
    | [.int x] => if mm_fit (mm_k0 ex) (.int x) = true then mm_rt (some (.int x)) else mm_bad
    | _ => mm_bad
  | .lreturn => match S with
    | [.long x] => mm_rt (some (.long x))
    | _ => mm_bad
  | .areturn => match S with
    | [.null] => mm_rt (some .null)
    | [.ref a] => mm_rt (some (.ref a))
    | _ => mm_bad
  | .return_ => match S with
    | [] => mm_rt none
    | _ => mm_bad
  | _ => mm_bad
