def mm_tbl : List Cond := lw_tbl.filter goodWord
theorem mm_win {w : Cond} (h : w ∈ lw_tbl) (hg : goodWord w = true) : w ∈ mm_tbl := List.mem_filter.mpr ⟨h, hg⟩
theorem mm_goodIn : GoodIn mm_tbl mm_tbl := fun w h => ⟨h, good_of_word (List.mem_filter.mp h).2⟩
theorem mm_code_in {m : Nat} (h : m < 173) : Cond.code (mm_y m) (mm_by m) (mm_maxL m) (mm_re m) ∈ mm_tbl := mm_win (mm_cd173 m h) rfl
theorem mm_plain : ∀ m, m < 173 → plainFor (mm_y m) = true := by decide +kernel
def mm_hd (m b : Nat) : Option Nat := (mm_blk m b).head?.map (fun i => i.1)
def mm_ln (i : Instr) : Nat := match i with
  | .bipush _ | .ldc _ | .newarray _ | .iload _ | .lload _ | .aload _ | .istore _ | .lstore _ | .astore _ => 2
  | .sipush _ | .ldc2_w _ | .getfield _ | .putfield _ | .getstatic _ | .invokestatic _ | .invokevirtual _ | .invokespecial _ | .goto _ | .ifCond _ _ | .if_icmp _ _ | .if_acmp _ _ | .ifnull _ | .ifnonnull _ | .new _ | .anewarray _ | .checkcast _ | .iinc _ _ => 3
  | _ => 1
def mm_dd (bs : ByteArray) (pc : Nat) (ins : Instr) (n : Nat) : Bool := match decode bs pc with
  | .ok (j, k) => decide (j = ins) && decide (k = n)
  | .error _ => false
def mm_dt (bs : ByteArray) (pc : Nat) (ins : Instr) : Bool := match decode bs pc with
  | .ok (j, _) => decide (j = ins)
  | .error _ => false
def mm_dk (bs : ByteArray) (i : mmI) (nx : Option Nat) : Bool := match i.2.1 with
  | .athrow => true
  | .nop => true
  | .tableswitch d lo hi offs => mm_dt bs i.1 (.tableswitch d lo hi offs)
  | ins => mm_dd bs i.1 ins (mm_ln ins) && (match nx with
    | some k => decide (k = i.1 + mm_ln ins)
    | none => true)
def mm_to (m pc : Nat) (o : Int) (b : Nat) : Bool := match mm_hd m b with
  | some t => decide ((pc : Int) + o = (t : Int))
  | none => false
def mm_tk (m : Nat) (i : mmI) : Bool := match i.2.1 with
  | .nop => decide (mm_hd m (mm_k0 i.2.2) = some i.1)
  | .goto o => mm_to m i.1 o (mm_k0 i.2.2)
  | .ifCond _ o => mm_to m i.1 o (mm_k0 i.2.2)
  | .if_icmp _ o => mm_to m i.1 o (mm_k0 i.2.2)
  | .if_acmp _ o => mm_to m i.1 o (mm_k0 i.2.2)
  | .ifnull o => mm_to m i.1 o (mm_k0 i.2.2)
  | .ifnonnull o => mm_to m i.1 o (mm_k0 i.2.2)
  | .tableswitch d lo hi offs => mm_to m i.1 d (mm_k0 i.2.2) && decide (i.2.2.tail.length = offs.size) && decide (hi - lo + 1 = (offs.size : Int)) && (List.range offs.size).all (fun j => mm_to m i.1 (offs.getD j 0) (i.2.2.tail.getD j 0))
  | _ => true
def mm_wd (k : Nat) : Option Cond := lw_tbl[k]?
def mm_sf (k : Nat) : String × String := if k = 0 then ("value", "[B") else ("coder", "B")
def mm_gs (k : Nat) : String × String × String := match k with
  | 0 => ("java/util/ArrayList", "DEFAULTCAPACITY_EMPTY_ELEMENTDATA", "[Ljava/lang/Object;")
  | 1 => ("java/lang/String", "COMPACT_STRINGS", "Z")
  | _ => ("jdk/internal/util/Preconditions", "SIOOBE_FORMATTER", "Ljava/util/function/BiFunction;")
def mm_fk (own : String) (idx c k j : Nat) : Bool := match mm_cls[c]? with
  | some (C, T, N) => decide (k < N) && (match mm_wd j with
    | some (.fieldLink o x r n d) => decide (o = own) && decide (x = idx) && decide (n = (T k).2.1) && decide (d = (T k).2.2.1) && (decide (r = (T k).1) || (decide (r = C) && decide (C = "java/util/ArrayList") && decide ((T k).1 = "java/util/AbstractList") && decide (n = "modCount") && decide (d = "I")))
    | _ => false)
  | none => false
/-- the kind of a field's type, as mm_fit has it -/
def mm_tg (ty : FieldType) : Nat := match ty with
  | .int => 0
  | .boolean => 1
  | .long => 2
  | .object _ => 3
  | .array _ => 3
  | .byte => 4
  | .char => 5
  | _ => 9
def mm_pk (m c k t : Nat) : Bool := match mm_cls[c]? with
  | some (_, T, _) => decide (mm_tg ((mm_fts.getD c (fun _ => .int)) k) = t) && (!(T k).2.2.2 || (decide ((mm_y m).name = "<init>") && decide ((T k).1 = mm_own m)))
  | none => false
def mm_arn (t : Nat) : String := if t = 0 then "[B" else "[Ljava/lang/Object;"
def mm_obn (t : Nat) : String := if t = 3 then "java/lang/Object" else "BoundsPlanner$Path"
def mm_nar1 (c n : Nat) : Bool := decide ((mm_y c).cls ≠ "java/lang/invoke/MethodHandle") && decide ((mm_y c).cls ≠ "java/lang/invoke/VarHandle") && decide ((parseMethodDescriptor (mm_y c).desc).map (fun d => d.parameters.length) = some n)
def mm_cnm (r : Nat) : String := if r = 100 then "java/lang/String" else ((mm_cls[r - 1]?).map (fun q => q.1)).getD ""
def mm_cw (own : String) (idx : Nat) (ex : List Nat) : Bool := decide (mm_k0 ex < 173) && decide (mm_wd (mm_k3 ex) = some (if ex.getD 4 0 = 1 then .methodLinkNest own idx (mm_y (mm_k0 ex)) "BoundsPlanner" else .methodLink own idx (mm_y (mm_k0 ex)))) && decide (mm_wd (mm_nis.getD (mm_k0 ex) 9999) = some (.initialized (mm_y (mm_k0 ex)).cls))
def mm_lk (m : Nat) (i : mmI) : Bool := match i.2.1 with
  | .getfield idx => if mm_k0 i.2.2 = 99 then decide (mm_k1 i.2.2 < 2) && decide (mm_wd (mm_k2 i.2.2) = some (.fieldLink (mm_own m) idx "java/lang/String" (mm_sf (mm_k1 i.2.2)).1 (mm_sf (mm_k1 i.2.2)).2)) else mm_fk (mm_own m) idx (mm_k0 i.2.2) (mm_k1 i.2.2) (mm_k3 i.2.2)
  | .putfield idx => mm_fk (mm_own m) idx (mm_k0 i.2.2) (mm_k1 i.2.2) (mm_k3 i.2.2) && mm_pk m (mm_k0 i.2.2) (mm_k1 i.2.2) (mm_k2 i.2.2)
  | .getstatic idx => decide (mm_k0 i.2.2 < 3) && decide (mm_wd (mm_k1 i.2.2) = some (.fieldLink (mm_own m) idx (mm_gs (mm_k0 i.2.2)).1 (mm_gs (mm_k0 i.2.2)).2.1 (mm_gs (mm_k0 i.2.2)).2.2))
  | .ldc idx => if mm_k0 i.2.2 = 0 then decide (mm_wd (mm_k2 i.2.2) = some (.constant (mm_own m) idx (Int32.ofNat (mm_k1 i.2.2)))) else if mm_k1 i.2.2 = 3 then decide (mm_wd (mm_k2 i.2.2) = some (.classLink (mm_own m) idx "[Ljava/lang/Object;")) else decide (10 ≤ mm_k1 i.2.2) && (match mm_sts[mm_k1 i.2.2 - 10]? with
    | some (o, x, _) => decide (o = mm_own m) && decide (x = idx)
    | none => false)
  | .ldc2_w idx => decide (mm_wd (mm_k1 i.2.2) = some (.constantLong (mm_own m) idx (Int64.ofNat (mm_k0 i.2.2))))
  | .new idx => match mm_cls[mm_k0 i.2.2]? with
    | some (C, _, N) => decide (mm_wd (mm_k1 i.2.2) = some (.classLink (mm_own m) idx C)) && decide (mm_wd (mm_cns.getD (mm_k0 i.2.2) (9999, 9999)).1 = some (.instantiable C N)) && decide (mm_wd (mm_cns.getD (mm_k0 i.2.2) (9999, 9999)).2 = some (.initialized C)) && decide ((mm_defs (mm_k0 i.2.2)).length = N)
    | none => false
  | .newarray t => decide (mm_k0 i.2.2 < 3) && decide (Op.newarray.typeOf t = mm_aty (mm_k0 i.2.2))
  | .anewarray idx => (decide (mm_k0 i.2.2 = 3) || decide (mm_k0 i.2.2 = 4)) && decide (mm_wd (mm_k1 i.2.2) = some (.classLink (mm_own m) idx (mm_obn (mm_k0 i.2.2))))
  | .checkcast idx => if mm_k0 i.2.2 = 0 then (decide (mm_k1 i.2.2 = 4) || decide (mm_k1 i.2.2 = 7) || decide (mm_k1 i.2.2 = 8)) && decide (mm_wd (mm_k2 i.2.2) = some (.classLink (mm_own m) idx (mm_cnm (mm_k1 i.2.2 + 1)))) else (decide (mm_k1 i.2.2 = 0) || decide (mm_k1 i.2.2 = 3)) && decide (mm_wd (mm_k2 i.2.2) = some (.classLink (mm_own m) idx (mm_arn (mm_k1 i.2.2))))
  | .invokestatic idx => if mm_k0 i.2.2 = 1000 then decide (mm_wd (mm_k1 i.2.2) = some (.methodLink (mm_own m) idx arraycopyName)) else mm_cw (mm_own m) idx i.2.2 && decide (mm_k2 i.2.2 = 0) && decide (mm_wd (mm_ips.getD (mm_k0 i.2.2) 9999) = some (.static (mm_y (mm_k0 i.2.2)))) && mm_nar1 (mm_k0 i.2.2) (mm_k1 i.2.2)
  | .invokevirtual idx => if mm_k0 i.2.2 = 1001 then decide (mm_wd (mm_k1 i.2.2) = some (.methodLink (mm_own m) idx ⟨"[B", "clone", "()Ljava/lang/Object;"⟩)) else if mm_k0 i.2.2 = 1002 then decide (mm_k1 i.2.2 = 3) && decide (mm_wd (mm_k2 i.2.2) = some (.methodLink (mm_own m) idx ⟨"java/lang/Object", "getClass", "()Ljava/lang/Class;"⟩)) else mm_cw (mm_own m) idx i.2.2 && decide (0 < mm_k1 i.2.2) && decide (0 < mm_k2 i.2.2) && decide ((mm_y (mm_k0 i.2.2)).cls = mm_cnm (mm_k2 i.2.2)) && decide (mm_wd (mm_ips.getD (mm_k0 i.2.2) 9999) = some (.instanceMethod (mm_y (mm_k0 i.2.2)))) && decide (mm_wd (mm_sps.getD (mm_k0 i.2.2) 9999) = some (.selects (mm_y (mm_k0 i.2.2)).cls (mm_y (mm_k0 i.2.2)) (mm_y (mm_k0 i.2.2)))) && mm_nar1 (mm_k0 i.2.2) (mm_k1 i.2.2 - 1)
  | .invokespecial idx => if mm_k0 i.2.2 = 1003 then decide (mm_wd (mm_k1 i.2.2) = some (.methodLink (mm_own m) idx Lib.objectInit)) else mm_cw (mm_own m) idx i.2.2 && decide (0 < mm_k1 i.2.2) && decide (mm_k2 i.2.2 = 0) && decide ((mm_y (mm_k0 i.2.2)).name = "<init>") && decide (mm_re (mm_k0 i.2.2) = none) && decide (mm_wd (mm_ips.getD (mm_k0 i.2.2) 9999) = some (.instanceMethod (mm_y (mm_k0 i.2.2)))) && mm_nar1 (mm_k0 i.2.2) (mm_k1 i.2.2 - 1)
  | .ireturn => match mm_re m with
    | some ty => decide (mm_tg ty = mm_k0 i.2.2) && decide (mm_k0 i.2.2 ≠ 2) && decide (mm_k0 i.2.2 ≠ 3)
    | none => false
  | .lreturn => decide (mm_re m = some .long)
  | .areturn => match mm_re m with
    | some ty => decide (mm_tg ty = 3)
    | none => false
  | .return_ => decide (mm_re m = none)
  | _ => true
def mm_okL (m : Nat) : List mmI → Bool
  | [] => true
  | i :: is => mm_dk (mm_by m) i (is.head?.map (fun j => j.1)) && mm_tk m i && mm_lk m i && mm_okL m is
def mm_okM (m : Nat) : Bool := (mm_tab.getD m []).all (mm_okL m)
theorem mm_ok_0 : mm_okM 0 = true := by decide +kernel
theorem mm_ok_1 : mm_okM 1 = true := by decide +kernel
