/-! rows of the machine against rows of the abstract one: what a program checks -/
def qHalt : qOp := (99, 0, 0, 0, .null, [])
def qOp' (y i : Nat) : qOp := (qOps.getD y []).getD i qHalt
def mN (y : Nat) : MethodName := qNm.getD y ⟨"", "", ""⟩
def mB (y : Nat) : ByteArray := qBy.getD y ⟨#[]⟩
def mO (y : Nat) : String := qOw.getD y ""
def mL (y : Nat) : Nat := qMl.getD y 0
def mR (y : Nat) : Option FieldType := qRt.getD y none
def mF (y : Nat) : Nat := qFr.getD y 0
def mW (y : Nat) : Nat := qLo.getD y 0
def cC (ci : Nat) : String := (vwCl.getD ci ("", fun _ => ("", "", "", false), 0)).1
def cT (ci : Nat) : u_T := (vwCl.getD ci ("", fun _ => ("", "", "", false), 0)).2.1
def cN (ci : Nat) : Nat := (vwCl.getD ci ("", fun _ => ("", "", "", false), 0)).2.2
def fkTl : List (List Nat) := [[1, 1], [2, 0, 0], [2, 0], [0, 0, 0, 0, 0], [2, 0], [2, 0], [2, 2, 2, 2, 2, 2, 2, 2, 2]]
def fk (ci j : Nat) : Nat := (fkTl.getD ci []).getD j 2
def qRw (y i : Nat) : qRow := (qRows.getD y []).getD i (0, .nop, 0)
def pcA (y i : Nat) : Nat := (qRw y i).1
def cnu : ClassFile.Cond → Nat
  | .eq => 0
  | .ne => 1
  | .lt => 2
  | .ge => 3
  | .gt => 4
  | .le => 5
def nx (y i pc n : Nat) : Bool := Nat.beq (pcA y (i + 1)) (pc + n)
def jmp (y pc : Nat) (off : Int) (b : Nat) : Bool := decide ((pc : Int) + off = (pcA y b : Int))
def tbw (i : Nat) (w : Cond) : Bool := decide (lw_tbl[i]? = some w)
def chkT (y pc : Nat) : Int → List Int → List (Int × Nat) → Bool
  | _, [], [] => true
  | lo, o :: os, q :: r => decide (q.1 = lo) && jmp y pc o q.2 && chkT y pc (lo + 1) os r
  | _, _, _ => false
def chkU (y pc : Nat) : List (Int × Int) → List (Int × Nat) → Bool
  | [], [] => true
  | o :: os, q :: r => decide (q.1 = o.1) && decide (-2147483648 ≤ o.1 ∧ o.1 < 2147483648) && jmp y pc o.2 q.2 && chkU y pc os r
  | _, _ => false
def chkF (y : Nat) (idx : Nat) (o : qOp) : Bool :=
  Nat.blt o.2.1 7 && Nat.blt o.2.2.1 (cN o.2.1) && tbw o.2.2.2.1 (.fieldLink (mO y) idx (cC o.2.1) (cT o.2.1 o.2.2.1).2.1 (cT o.2.1 o.2.2.1).2.2.1) && decide ((cT o.2.1 o.2.2.1).1 = cC o.2.1)
def qNw (t : String × Nat × String × String × String × String) : Cond := .fieldLinkNest t.1 t.2.1 t.2.2.1 t.2.2.2.1 t.2.2.2.2.1 t.2.2.2.2.2
def chkG (y : Nat) (idx : Nat) (o : qOp) : Bool :=
  Nat.blt o.2.1 7 && Nat.blt o.2.2.1 (cN o.2.1) && decide (qNst[o.2.2.2.1]?.map (fun t => qNw t) = some (.fieldLinkNest (mO y) idx (cC o.2.1) (cT o.2.1 o.2.2.1).2.1 (cT o.2.1 o.2.2.1).2.2.1 "StabilityAnalyzer")) && decide ((cT o.2.1 o.2.2.1).1 = cC o.2.1)
def chkP (o : qOp) (ty : FieldType) : Bool := decide (parseFieldDescriptor (cT o.2.1 o.2.2.1).2.2.1 = some ty) && decide ((cT o.2.1 o.2.2.1).2.2.2 = false)
def chkM (y : Nat) (o : qOp) : Bool :=
  Nat.blt o.2.1 81 && Nat.ble (mF o.2.1 + 1) (mF y) && Nat.ble (8 + (mL o.2.1 + 11) + mW o.2.1) (mW y) && decide ((mN o.2.1).cls ≠ "java/lang/invoke/MethodHandle" ∧ (mN o.2.1).cls ≠ "java/lang/invoke/VarHandle")
def chkS (y idx : Nat) (o : qOp) : Bool := match o.2.2.2.2.2 with
  | [w1, w2, w3] => chkM y o && tbw w1.2 (.methodLink (mO y) idx (mN o.2.1)) && tbw w2.2 (.static (mN o.2.1)) && tbw w3.2 (.initialized (mN o.2.1).cls) && decide ((parseMethodDescriptor (mN o.2.1).desc).map (fun d => d.parameters.length) = some o.2.2.1)
  | _ => false
def chkV (y idx : Nat) (o : qOp) : Bool := match o.2.2.2.2.2 with
  | [w1, w2, w3, w4] => chkM y o && tbw w1.2 (.methodLink (mO y) idx (mN o.2.1)) && tbw w2.2 (.instanceMethod (mN o.2.1)) && tbw w3.2 (.selects (mN o.2.1).cls (mN o.2.1) (mN o.2.1)) && tbw w4.2 (.initialized (mN o.2.1).cls) && Nat.blt o.2.2.2.1 7 && decide (cC o.2.2.2.1 = (mN o.2.1).cls) && decide ((parseMethodDescriptor (mN o.2.1).desc).map (fun d => d.parameters.length) = some o.2.2.1)
  | _ => false
def chkO (y i pc : Nat) (ins : Instr) (len : Nat) (o : qOp) : Bool := match ins with
  | .iconst n => Nat.beq o.1 0 && decide (o.2.2.2.2.1 = .int (Int32.ofInt n)) && Nat.beq len 1 && nx y i pc 1
  | .bipush n => Nat.beq o.1 0 && decide (o.2.2.2.2.1 = .int (Int8.ofInt n).toInt32) && Nat.beq len 2 && nx y i pc 2
  | .sipush n => Nat.beq o.1 0 && decide (o.2.2.2.2.1 = .int (Int16.ofInt n).toInt32) && Nat.beq len 3 && nx y i pc 3
  | .lconst n => Nat.beq o.1 0 && decide (o.2.2.2.2.1 = .long (Int64.ofNat n.val)) && Nat.beq len 1 && nx y i pc 1
  | .aconst_null => Nat.beq o.1 0 && decide (o.2.2.2.2.1 = .null) && Nat.beq len 1 && nx y i pc 1
  | .ldc idx => (match o.2.2.2.2.1 with | .int x => Nat.beq o.1 0 && tbw o.2.1 (.constant (mO y) idx x) | _ => false) && Nat.beq len 2 && nx y i pc 2
  | .ldc2_w idx => (match o.2.2.2.2.1 with | .long x => Nat.beq o.1 0 && tbw o.2.1 (.constantLong (mO y) idx x) | _ => false) && Nat.beq len 3 && nx y i pc 3
  | .iload k => Nat.beq o.1 1 && Nat.beq o.2.1 k && Nat.beq len 2 && nx y i pc 2
  | .iload_n k => Nat.beq o.1 1 && Nat.beq o.2.1 k.val && Nat.beq len 1 && nx y i pc 1
  | .lload k => Nat.beq o.1 2 && Nat.beq o.2.1 k && Nat.beq len 2 && nx y i pc 2
  | .lload_n k => Nat.beq o.1 2 && Nat.beq o.2.1 k.val && Nat.beq len 1 && nx y i pc 1
  | .aload k => Nat.beq o.1 3 && Nat.beq o.2.1 k && Nat.beq len 2 && nx y i pc 2
  | .aload_n k => Nat.beq o.1 3 && Nat.beq o.2.1 k.val && Nat.beq len 1 && nx y i pc 1
  | .istore k => Nat.beq o.1 4 && Nat.beq o.2.1 k && Nat.blt k (mL y) && Nat.beq len 2 && nx y i pc 2
  | .istore_n k => Nat.beq o.1 4 && Nat.beq o.2.1 k.val && Nat.blt k.val (mL y) && Nat.beq len 1 && nx y i pc 1
  | .lstore k => Nat.beq o.1 5 && Nat.beq o.2.1 k && Nat.blt (k + 1) (mL y) && Nat.beq len 2 && nx y i pc 2
  | .lstore_n k => Nat.beq o.1 5 && Nat.beq o.2.1 k.val && Nat.blt (k.val + 1) (mL y) && Nat.beq len 1 && nx y i pc 1
  | .astore k => Nat.beq o.1 6 && Nat.beq o.2.1 k && Nat.blt k (mL y) && Nat.beq len 2 && nx y i pc 2
  | .astore_n k => Nat.beq o.1 6 && Nat.beq o.2.1 k.val && Nat.blt k.val (mL y) && Nat.beq len 1 && nx y i pc 1
  | .iinc k n => Nat.beq o.1 7 && Nat.beq o.2.1 k && decide (o.2.2.2.2.1 = .int (Int32.ofInt n)) && Nat.blt k (mL y) && Nat.beq len 3 && nx y i pc 3
  | .iadd => Nat.beq o.1 8 && Nat.beq len 1 && nx y i pc 1
  | .isub => Nat.beq o.1 9 && Nat.beq len 1 && nx y i pc 1
  | .imul => Nat.beq o.1 10 && Nat.beq len 1 && nx y i pc 1
  | .iand => Nat.beq o.1 11 && Nat.beq len 1 && nx y i pc 1
  | .ior => Nat.beq o.1 12 && Nat.beq len 1 && nx y i pc 1
  | .ishl => Nat.beq o.1 13 && Nat.beq len 1 && nx y i pc 1
  | .ishr => Nat.beq o.1 14 && Nat.beq len 1 && nx y i pc 1
  | .idiv => Nat.beq o.1 15 && Nat.beq len 1 && nx y i pc 1
  | .irem => Nat.beq o.1 16 && Nat.beq len 1 && nx y i pc 1
  | .ineg => Nat.beq o.1 17 && Nat.beq len 1 && nx y i pc 1
  | .ladd => Nat.beq o.1 18 && Nat.beq len 1 && nx y i pc 1
  | .lsub => Nat.beq o.1 19 && Nat.beq len 1 && nx y i pc 1
  | .lmul => Nat.beq o.1 20 && Nat.beq len 1 && nx y i pc 1
  | .ldiv => Nat.beq o.1 21 && Nat.beq len 1 && nx y i pc 1
  | .lrem => Nat.beq o.1 22 && Nat.beq len 1 && nx y i pc 1
  | .lneg => Nat.beq o.1 23 && Nat.beq len 1 && nx y i pc 1
  | .lshl => Nat.beq o.1 24 && Nat.beq len 1 && nx y i pc 1
  | .lcmp => Nat.beq o.1 25 && Nat.beq len 1 && nx y i pc 1
  | .i2l => Nat.beq o.1 26 && Nat.beq len 1 && nx y i pc 1
  | .l2i => Nat.beq o.1 27 && Nat.beq len 1 && nx y i pc 1
  | .lxor => Nat.beq o.1 57 && Nat.beq len 1 && nx y i pc 1
  | .ifCond cc off => Nat.beq o.1 28 && Nat.beq o.2.1 (cnu cc) && jmp y pc off o.2.2.1 && Nat.beq len 3 && nx y i pc 3
  | .if_icmp cc off => Nat.beq o.1 29 && Nat.beq o.2.1 (cnu cc) && jmp y pc off o.2.2.1 && Nat.beq len 3 && nx y i pc 3
  | .ifnull off => Nat.beq o.1 30 && jmp y pc off o.2.2.1 && Nat.beq len 3 && nx y i pc 3
  | .ifnonnull off => Nat.beq o.1 31 && jmp y pc off o.2.2.1 && Nat.beq len 3 && nx y i pc 3
  | .goto off => Nat.beq o.1 32 && jmp y pc off o.2.2.1 && Nat.beq len 3
  | .tableswitch d lo hi offs => Nat.beq o.1 33 && jmp y pc d o.2.2.1 && decide (-2147483648 ≤ lo ∧ hi < 2147483648 ∧ (offs.size : Int) = hi - lo + 1) && chkT y pc lo offs.toList o.2.2.2.2.2
  | .lookupswitch d ps => Nat.beq o.1 33 && jmp y pc d o.2.2.1 && (ps.toList.zip (ps.toList.drop 1)).all (fun (a, b) => a.1 < b.1) && chkU y pc ps.toList o.2.2.2.2.2
  | .getfield idx => Nat.beq len 3 && nx y i pc 3 && ((Nat.beq o.1 34 && chkF y idx o && Nat.beq (fk o.2.1 o.2.2.1) 0) || (Nat.beq o.1 35 && chkF y idx o && Nat.beq (fk o.2.1 o.2.2.1) 1) || (Nat.beq o.1 36 && chkF y idx o && Nat.beq (fk o.2.1 o.2.2.1) 2) || (Nat.beq o.1 60 && chkG y idx o && Nat.beq (fk o.2.1 o.2.2.1) 0) || (Nat.beq o.1 61 && chkG y idx o && Nat.beq (fk o.2.1 o.2.2.1) 1) || (Nat.beq o.1 62 && chkG y idx o && Nat.beq (fk o.2.1 o.2.2.1) 2))
  | .putfield idx => Nat.beq len 3 && nx y i pc 3 && ((Nat.beq o.1 37 && chkF y idx o && chkP o .int && Nat.beq (fk o.2.1 o.2.2.1) 0) || (Nat.beq o.1 38 && chkF y idx o && chkP o .long && Nat.beq (fk o.2.1 o.2.2.1) 1) || (Nat.beq o.1 39 && chkF y idx o && chkP o .boolean && Nat.beq (fk o.2.1 o.2.2.1) 0) || (Nat.beq o.1 65 && chkG y idx o && chkP o .boolean && Nat.beq (fk o.2.1 o.2.2.1) 0))
  | .arraylength => (Nat.beq o.1 40 || Nat.beq o.1 59) && Nat.beq len 1 && nx y i pc 1
  | .iaload => (Nat.beq o.1 41 || Nat.beq o.1 58) && Nat.beq len 1 && nx y i pc 1
  | .laload => Nat.beq o.1 42 && Nat.beq len 1 && nx y i pc 1
  | .baload => false
  | .aaload => Nat.beq o.1 44 && (Nat.beq o.2.1 103 || Nat.beq o.2.1 104) && Nat.beq len 1 && nx y i pc 1
  | .iastore => Nat.beq o.1 45 && Nat.beq len 1 && nx y i pc 1
  | .lastore => Nat.beq o.1 46 && Nat.beq len 1 && nx y i pc 1
  | .bastore => false
  | .invokestatic idx => Nat.beq o.1 48 && chkS y idx o && Nat.beq len 3 && nx y i pc 3
  | .invokevirtual idx => Nat.beq o.1 49 && chkV y idx o && Nat.beq len 3 && nx y i pc 3
  | .ireturn => ((Nat.beq o.1 50 && decide (mR y = some .int)) || (Nat.beq o.1 51 && decide (mR y = some .boolean))) && Nat.beq len 1
  | .lreturn => Nat.beq o.1 52 && decide (mR y = some .long) && Nat.beq len 1
  | .areturn => Nat.beq o.1 53 && (match mR y with | some (.object _) => true | _ => false) && Nat.beq len 1
  | .return_ => Nat.beq o.1 54 && decide (mR y = none) && Nat.beq len 1
  | .dup => Nat.beq o.1 55 && Nat.beq len 1 && nx y i pc 1
  | .dup2 => Nat.beq o.1 56 && Nat.beq len 1 && nx y i pc 1
  | _ => false
def qDec (y : Nat) (r : qRow) : Bool := match decode (mB y) r.1 with
  | .ok q => decide (q = (r.2.1, r.2.2))
  | _ => false
def chk (y i : Nat) : Bool := Nat.beq (qOp' y i).1 99 || (qDec y (qRw y i) && chkO y i (qRw y i).1 (qRw y i).2.1 (qRw y i).2.2 (qOp' y i))
def chkAll (lo n : Nat) : Bool := (List.range n).all (fun k => (List.range (qOps.getD (lo + k) []).length).all (chk (lo + k)))
def chkRng (y lo n : Nat) : Bool := (List.range n).all (fun k => chk y (lo + k))
set_option maxRecDepth 100000 in
theorem ck_len : qOps.length = 82 := by decide +kernel
