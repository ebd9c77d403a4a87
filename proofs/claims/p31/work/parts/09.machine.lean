/-! the abstract machine: memory of ints and longs over a fixed list of objects; a judgement 'P' that is closed under one step -/
abbrev qMem : Type := (Nat → Nat → Int32) × (Nat → Nat → Int64)
abbrev qLc : Type := List (Nat × Value)
abbrev qPost : Type := Option Value → qMem → Prop
abbrev qSem : Type := Nat → Nat → qLc → List Value → qMem → qPost → Prop
def pI (M : qMem) (k j : Nat) (x : Int32) : qMem := (fun a b => if a = k ∧ b = j then x else M.1 a b, M.2)
def pJ (M : qMem) (k j : Nat) (x : Int64) : qMem := (M.1, fun a b => if a = k ∧ b = j then x else M.2 a b)
def lcS1 (L : qLc) (i : Nat) (v : Value) : qLc := (i, v) :: L.filter (fun q => !(q.1 == i) && !(q.1 + 1 == i && q.2.category == 2))
def lcS2 (L : qLc) (i : Nat) (v : Value) : qLc := (i, v) :: L.filter (fun q => !(q.1 == i) && (!(q.1 == i + 1) && !(q.1 + 1 == i && q.2.category == 2)))
def lcG (i : Nat) : qLc → Value
  | [] => .retAddr 0
  | q :: r => bif q.1 == i then q.2 else lcG i r
def csum (st : List Value) : Nat := (st.map fun v => v.category).sum
def shTl : List (Nat × Nat) := [(6, 0), (4, 0), (100, 64), (4, 0), (100, 64), (101, 64), (1, 0), (103, 8), (4, 0), (100, 64), (4, 0), (100, 64), (4, 0), (100, 64), (4, 0), (100, 64), (4, 0), (100, 64), (4, 0), (100, 64), (4, 0), (100, 64), (4, 0), (100, 64), (104, 2), (2, 0), (4, 0), (100, 64), (2, 0), (4, 0), (100, 64), (5, 0), (100, 120), (3, 0), (0, 0), (0, 0), (6, 0), (4, 0), (100, 64), (4, 0), (100, 64), (101, 64), (1, 0), (103, 8), (4, 0), (100, 64), (4, 0), (100, 64), (4, 0), (100, 64), (4, 0), (100, 64), (4, 0), (100, 64), (4, 0), (100, 64), (4, 0), (100, 64), (4, 0), (100, 64), (104, 2), (2, 0), (4, 0), (100, 64), (2, 0), (4, 0), (100, 64), (5, 0), (100, 120), (3, 0), (0, 0), (0, 0)]
def rfTl : List (List Nat) := [[1, 3, 5, 6, 24, 31, 33, 34, 35], [2], [], [4], [], [], [7], [8, 10, 12, 14, 16, 18, 20, 22], [9], [], [11], [], [13], [], [15], [], [17], [], [19], [], [21], [], [23], [], [25, 28], [26], [27], [], [29], [30], [], [32], [], [], [], []]
def shT (k : Nat) : Nat := (shTl.getD k (200, 0)).1
def shL (k : Nat) : Nat := (shTl.getD k (200, 0)).2
def rf (k j : Nat) : Nat := bif Nat.ble 36 k then 36 + (rfTl.getD (k - 36) []).getD j 0 else (rfTl.getD k []).getD j 0
def qSCR : Nat := 1000
def icc (cc : Nat) (x y : Int32) : Prop := match cc with
  | 0 => x = y
  | 1 => ¬ x = y
  | 2 => x < y
  | 3 => y ≤ x
  | 4 => y < x
  | _ => x ≤ y
def swP (x : Int32) (f : Nat → Prop) : List (Int × Nat) → Nat → Prop
  | [], d => f d
  | q :: r, d => (x = Int32.ofInt q.1 → f q.2) ∧ (¬ x = Int32.ofInt q.1 → swP x f r d)
def qx_0 (P : qSem) (y i : Nat) (o : qOp) (L : qLc) (stk : List Value) (M : qMem) (Q : qPost) : Prop :=
  P y (i + 1) L (o.2.2.2.2.1 :: stk) M Q
def qx_1 (P : qSem) (y i : Nat) (o : qOp) (L : qLc) (stk : List Value) (M : qMem) (Q : qPost) : Prop :=
  match lcG o.2.1 L with
    | .int x => P y (i + 1) L (.int x :: stk) M Q
    | _ => False
def qx_2 (P : qSem) (y i : Nat) (o : qOp) (L : qLc) (stk : List Value) (M : qMem) (Q : qPost) : Prop :=
  match lcG o.2.1 L with
    | .long x => P y (i + 1) L (.long x :: stk) M Q
    | _ => False
def qx_3 (P : qSem) (y i : Nat) (o : qOp) (L : qLc) (stk : List Value) (M : qMem) (Q : qPost) : Prop :=
  match lcG o.2.1 L with
    | .ref x => P y (i + 1) L (.ref x :: stk) M Q
    | .null => P y (i + 1) L (.null :: stk) M Q
    | _ => False
def qx_4 (P : qSem) (y i : Nat) (o : qOp) (L : qLc) (stk : List Value) (M : qMem) (Q : qPost) : Prop :=
  match stk with
    | .int x :: st => P y (i + 1) (lcS1 L o.2.1 (.int x)) st M Q
    | _ => False
def qx_5 (P : qSem) (y i : Nat) (o : qOp) (L : qLc) (stk : List Value) (M : qMem) (Q : qPost) : Prop :=
  match stk with
    | .long x :: st => P y (i + 1) (lcS2 L o.2.1 (.long x)) st M Q
    | _ => False
def qx_6 (P : qSem) (y i : Nat) (o : qOp) (L : qLc) (stk : List Value) (M : qMem) (Q : qPost) : Prop :=
  match stk with
    | .ref x :: st => P y (i + 1) (lcS1 L o.2.1 (.ref x)) st M Q
    | .null :: st => P y (i + 1) (lcS1 L o.2.1 .null) st M Q
    | _ => False
def qx_7 (P : qSem) (y i : Nat) (o : qOp) (L : qLc) (stk : List Value) (M : qMem) (Q : qPost) : Prop :=
  match lcG o.2.1 L, o.2.2.2.2.1 with
    | .int x, .int d => P y (i + 1) (lcS1 L o.2.1 (.int (x + d))) stk M Q
    | _, _ => False
/-- one step: what must hold so that the judgement holds at row i of method y -/
def qSt1 (P : qSem) (y i : Nat) (o : qOp) (L : qLc) (stk : List Value) (M : qMem) (Q : qPost) : Prop :=
  match o.1 with
  | 0 => qx_0 P y i o L stk M Q
  | 1 => qx_1 P y i o L stk M Q
  | 2 => qx_2 P y i o L stk M Q
  | 3 => qx_3 P y i o L stk M Q
  | 4 => qx_4 P y i o L stk M Q
  | 5 => qx_5 P y i o L stk M Q
  | 6 => qx_6 P y i o L stk M Q
  | _ => qx_7 P y i o L stk M Q
def qx_8 (P : qSem) (y i : Nat) (o : qOp) (L : qLc) (stk : List Value) (M : qMem) (Q : qPost) : Prop :=
  match stk with
    | .int b :: .int a :: st => P y (i + 1) L (.int (a + b) :: st) M Q
    | _ => False
def qx_9 (P : qSem) (y i : Nat) (o : qOp) (L : qLc) (stk : List Value) (M : qMem) (Q : qPost) : Prop :=
  match stk with
    | .int b :: .int a :: st => P y (i + 1) L (.int (a - b) :: st) M Q
    | _ => False
def qx_10 (P : qSem) (y i : Nat) (o : qOp) (L : qLc) (stk : List Value) (M : qMem) (Q : qPost) : Prop :=
  match stk with
    | .int b :: .int a :: st => P y (i + 1) L (.int (a * b) :: st) M Q
    | _ => False
def qx_11 (P : qSem) (y i : Nat) (o : qOp) (L : qLc) (stk : List Value) (M : qMem) (Q : qPost) : Prop :=
  match stk with
    | .int b :: .int a :: st => P y (i + 1) L (.int (a &&& b) :: st) M Q
    | _ => False
def qx_12 (P : qSem) (y i : Nat) (o : qOp) (L : qLc) (stk : List Value) (M : qMem) (Q : qPost) : Prop :=
  match stk with
    | .int b :: .int a :: st => P y (i + 1) L (.int (a ||| b) :: st) M Q
    | _ => False
def qx_13 (P : qSem) (y i : Nat) (o : qOp) (L : qLc) (stk : List Value) (M : qMem) (Q : qPost) : Prop :=
  match stk with
    | .int b :: .int a :: st => P y (i + 1) L (.int (a <<< (b &&& 31)) :: st) M Q
    | _ => False
def qx_14 (P : qSem) (y i : Nat) (o : qOp) (L : qLc) (stk : List Value) (M : qMem) (Q : qPost) : Prop :=
  match stk with
    | .int b :: .int a :: st => P y (i + 1) L (.int (a >>> (b &&& 31)) :: st) M Q
    | _ => False
def qx_15 (P : qSem) (y i : Nat) (o : qOp) (L : qLc) (stk : List Value) (M : qMem) (Q : qPost) : Prop :=
  match stk with
    | .int b :: .int a :: st => ¬ b = 0 ∧ P y (i + 1) L (.int (a / b) :: st) M Q
    | _ => False
def qx_16 (P : qSem) (y i : Nat) (o : qOp) (L : qLc) (stk : List Value) (M : qMem) (Q : qPost) : Prop :=
  match stk with
    | .int b :: .int a :: st => ¬ b = 0 ∧ P y (i + 1) L (.int (a - a / b * b) :: st) M Q
    | _ => False
def qx_17 (P : qSem) (y i : Nat) (o : qOp) (L : qLc) (stk : List Value) (M : qMem) (Q : qPost) : Prop :=
  match stk with
    | .int a :: st => P y (i + 1) L (.int (-a) :: st) M Q
    | _ => False
def qx_18 (P : qSem) (y i : Nat) (o : qOp) (L : qLc) (stk : List Value) (M : qMem) (Q : qPost) : Prop :=
  match stk with
    | .long b :: .long a :: st => P y (i + 1) L (.long (a + b) :: st) M Q
    | _ => False
def qx_19 (P : qSem) (y i : Nat) (o : qOp) (L : qLc) (stk : List Value) (M : qMem) (Q : qPost) : Prop :=
  match stk with
    | .long b :: .long a :: st => P y (i + 1) L (.long (a - b) :: st) M Q
    | _ => False
def qx_20 (P : qSem) (y i : Nat) (o : qOp) (L : qLc) (stk : List Value) (M : qMem) (Q : qPost) : Prop :=
  match stk with
    | .long b :: .long a :: st => P y (i + 1) L (.long (a * b) :: st) M Q
    | _ => False
def qx_21 (P : qSem) (y i : Nat) (o : qOp) (L : qLc) (stk : List Value) (M : qMem) (Q : qPost) : Prop :=
  match stk with
    | .long b :: .long a :: st => ¬ b = 0 ∧ P y (i + 1) L (.long (a / b) :: st) M Q
    | _ => False
def qx_22 (P : qSem) (y i : Nat) (o : qOp) (L : qLc) (stk : List Value) (M : qMem) (Q : qPost) : Prop :=
  match stk with
    | .long b :: .long a :: st => ¬ b = 0 ∧ P y (i + 1) L (.long (a - a / b * b) :: st) M Q
    | _ => False
def qx_23 (P : qSem) (y i : Nat) (o : qOp) (L : qLc) (stk : List Value) (M : qMem) (Q : qPost) : Prop :=
  match stk with
    | .long a :: st => P y (i + 1) L (.long (-a) :: st) M Q
    | _ => False
def qx_24 (P : qSem) (y i : Nat) (o : qOp) (L : qLc) (stk : List Value) (M : qMem) (Q : qPost) : Prop :=
  match stk with
    | .int b :: .long a :: st => P y (i + 1) L (.long (a <<< (b.toInt64 &&& 63)) :: st) M Q
    | _ => False
def qx_25 (P : qSem) (y i : Nat) (o : qOp) (L : qLc) (stk : List Value) (M : qMem) (Q : qPost) : Prop :=
  match stk with
    | .long b :: .long a :: st => P y (i + 1) L (.int (lg_cmp a b) :: st) M Q
    | _ => False
def qx_26 (P : qSem) (y i : Nat) (o : qOp) (L : qLc) (stk : List Value) (M : qMem) (Q : qPost) : Prop :=
  match stk with
    | .int a :: st => P y (i + 1) L (.long a.toInt64 :: st) M Q
    | _ => False
def qx_27 (P : qSem) (y i : Nat) (o : qOp) (L : qLc) (stk : List Value) (M : qMem) (Q : qPost) : Prop :=
  match stk with
    | .long a :: st => P y (i + 1) L (.int a.toInt32 :: st) M Q
    | _ => False
/-- arithmetic -/
def qSt2 (P : qSem) (y i : Nat) (o : qOp) (L : qLc) (stk : List Value) (M : qMem) (Q : qPost) : Prop :=
  match o.1 with
  | 8 => qx_8 P y i o L stk M Q
  | 9 => qx_9 P y i o L stk M Q
  | 10 => qx_10 P y i o L stk M Q
  | 11 => qx_11 P y i o L stk M Q
  | 12 => qx_12 P y i o L stk M Q
  | 13 => qx_13 P y i o L stk M Q
  | 14 => qx_14 P y i o L stk M Q
  | 15 => qx_15 P y i o L stk M Q
  | 16 => qx_16 P y i o L stk M Q
  | 17 => qx_17 P y i o L stk M Q
  | 18 => qx_18 P y i o L stk M Q
  | 19 => qx_19 P y i o L stk M Q
  | 20 => qx_20 P y i o L stk M Q
  | 21 => qx_21 P y i o L stk M Q
  | 22 => qx_22 P y i o L stk M Q
  | 23 => qx_23 P y i o L stk M Q
  | 24 => qx_24 P y i o L stk M Q
  | 25 => qx_25 P y i o L stk M Q
  | 26 => qx_26 P y i o L stk M Q
  | _ => qx_27 P y i o L stk M Q
def qx_28 (P : qSem) (y i : Nat) (o : qOp) (L : qLc) (stk : List Value) (M : qMem) (Q : qPost) : Prop :=
  match stk with
    | .int a :: st => (icc o.2.1 a 0 → P y o.2.2.1 L st M Q) ∧ (¬ icc o.2.1 a 0 → P y (i + 1) L st M Q)
    | _ => False
def qx_29 (P : qSem) (y i : Nat) (o : qOp) (L : qLc) (stk : List Value) (M : qMem) (Q : qPost) : Prop :=
  match stk with
    | .int b :: .int a :: st => (icc o.2.1 a b → P y o.2.2.1 L st M Q) ∧ (¬ icc o.2.1 a b → P y (i + 1) L st M Q)
    | _ => False
def qx_30 (P : qSem) (y i : Nat) (o : qOp) (L : qLc) (stk : List Value) (M : qMem) (Q : qPost) : Prop :=
  match stk with
    | .null :: st => P y o.2.2.1 L st M Q
    | .ref _ :: st => P y (i + 1) L st M Q
    | _ => False
def qx_31 (P : qSem) (y i : Nat) (o : qOp) (L : qLc) (stk : List Value) (M : qMem) (Q : qPost) : Prop :=
  match stk with
    | .null :: st => P y (i + 1) L st M Q
    | .ref _ :: st => P y o.2.2.1 L st M Q
    | _ => False
def qx_32 (P : qSem) (y i : Nat) (o : qOp) (L : qLc) (stk : List Value) (M : qMem) (Q : qPost) : Prop :=
  P y o.2.2.1 L stk M Q
def qx_33 (P : qSem) (y i : Nat) (o : qOp) (L : qLc) (stk : List Value) (M : qMem) (Q : qPost) : Prop :=
  match stk with
    | .int a :: st => swP a (fun t => P y t L st M Q) o.2.2.2.2.2 o.2.2.1
    | _ => False
/-- branches -/
def qSt3 (P : qSem) (y i : Nat) (o : qOp) (L : qLc) (stk : List Value) (M : qMem) (Q : qPost) : Prop :=
  match o.1 with
  | 28 => qx_28 P y i o L stk M Q
  | 29 => qx_29 P y i o L stk M Q
  | 30 => qx_30 P y i o L stk M Q
  | 31 => qx_31 P y i o L stk M Q
  | 32 => qx_32 P y i o L stk M Q
  | _ => qx_33 P y i o L stk M Q
def qx_34 (P : qSem) (y i : Nat) (o : qOp) (L : qLc) (stk : List Value) (M : qMem) (Q : qPost) : Prop :=
  match stk with
    | .ref k :: st => shT k = o.2.1 ∧ P y (i + 1) L (.int (M.1 k o.2.2.1) :: st) M Q
    | _ => False
def qx_35 (P : qSem) (y i : Nat) (o : qOp) (L : qLc) (stk : List Value) (M : qMem) (Q : qPost) : Prop :=
  match stk with
    | .ref k :: st => shT k = o.2.1 ∧ P y (i + 1) L (.long (M.2 k o.2.2.1) :: st) M Q
    | _ => False
def qx_36 (P : qSem) (y i : Nat) (o : qOp) (L : qLc) (stk : List Value) (M : qMem) (Q : qPost) : Prop :=
  match stk with
    | .ref k :: st => shT k = o.2.1 ∧ P y (i + 1) L (.ref (rf k o.2.2.1) :: st) M Q
    | _ => False
def qx_37 (P : qSem) (y i : Nat) (o : qOp) (L : qLc) (stk : List Value) (M : qMem) (Q : qPost) : Prop :=
  match stk with
    | .int x :: .ref k :: st => shT k = o.2.1 ∧ P y (i + 1) L st (pI M k o.2.2.1 x) Q
    | _ => False
def qx_38 (P : qSem) (y i : Nat) (o : qOp) (L : qLc) (stk : List Value) (M : qMem) (Q : qPost) : Prop :=
  match stk with
    | .long x :: .ref k :: st => shT k = o.2.1 ∧ P y (i + 1) L st (pJ M k o.2.2.1 x) Q
    | _ => False
def qx_39 (P : qSem) (y i : Nat) (o : qOp) (L : qLc) (stk : List Value) (M : qMem) (Q : qPost) : Prop :=
  match stk with
    | .int x :: .ref k :: st => shT k = o.2.1 ∧ narrow .boolean (.int x) = .int x ∧ P y (i + 1) L st (pI M k o.2.2.1 x) Q
    | _ => False
/-- fields -/
def qSt4 (P : qSem) (y i : Nat) (o : qOp) (L : qLc) (stk : List Value) (M : qMem) (Q : qPost) : Prop :=
  match o.1 with
  | 34 => qx_34 P y i o L stk M Q
  | 35 => qx_35 P y i o L stk M Q
  | 36 => qx_36 P y i o L stk M Q
  | 37 => qx_37 P y i o L stk M Q
  | 38 => qx_38 P y i o L stk M Q
  | _ => qx_39 P y i o L stk M Q
def qx_40 (P : qSem) (y i : Nat) (o : qOp) (L : qLc) (stk : List Value) (M : qMem) (Q : qPost) : Prop :=
  match stk with
    | .ref k :: st => 100 ≤ shT k ∧ shT k ≤ 104 ∧ P y (i + 1) L (.int (Int32.ofNat (shL k)) :: st) M Q
    | _ => False
def qx_41 (P : qSem) (y i : Nat) (o : qOp) (L : qLc) (stk : List Value) (M : qMem) (Q : qPost) : Prop :=
  match stk with
    | .int j :: .ref k :: st => shT k = 100 ∧ vp_in j (shL k) ∧ P y (i + 1) L (.int (M.1 k j.toNatClampNeg) :: st) M Q
    | _ => False
def qx_42 (P : qSem) (y i : Nat) (o : qOp) (L : qLc) (stk : List Value) (M : qMem) (Q : qPost) : Prop :=
  match stk with
    | .int j :: .ref k :: st => shT k = 101 ∧ vp_in j (shL k) ∧ P y (i + 1) L (.long (M.2 k j.toNatClampNeg) :: st) M Q
    | _ => False
def qx_43 (P : qSem) (y i : Nat) (o : qOp) (L : qLc) (stk : List Value) (M : qMem) (Q : qPost) : Prop :=
  match stk with
    | .int j :: .ref k :: st => shT k = 102 ∧ vp_in j (shL k) ∧ P y (i + 1) L (.int (M.1 k j.toNatClampNeg) :: st) M Q
    | _ => False
def qx_44 (P : qSem) (y i : Nat) (o : qOp) (L : qLc) (stk : List Value) (M : qMem) (Q : qPost) : Prop :=
  match stk with
    | .int j :: .ref k :: st => shT k = o.2.1 ∧ vp_in j (shL k) ∧ P y (i + 1) L (.ref (rf k j.toNatClampNeg) :: st) M Q
    | _ => False
def qx_45 (P : qSem) (y i : Nat) (o : qOp) (L : qLc) (stk : List Value) (M : qMem) (Q : qPost) : Prop :=
  match stk with
    | .int x :: .int j :: .ref k :: st => shT k = 100 ∧ vp_in j (shL k) ∧ P y (i + 1) L st (pI M k j.toNatClampNeg x) Q
    | _ => False
def qx_46 (P : qSem) (y i : Nat) (o : qOp) (L : qLc) (stk : List Value) (M : qMem) (Q : qPost) : Prop :=
  match stk with
    | .long x :: .int j :: .ref k :: st => shT k = 101 ∧ vp_in j (shL k) ∧ P y (i + 1) L st (pJ M k j.toNatClampNeg x) Q
    | _ => False
def qx_47 (P : qSem) (y i : Nat) (o : qOp) (L : qLc) (stk : List Value) (M : qMem) (Q : qPost) : Prop :=
  match stk with
    | .int x :: .int j :: .ref k :: st => shT k = 102 ∧ vp_in j (shL k) ∧ P y (i + 1) L st (pI M k j.toNatClampNeg (vp_nar .boolean x)) Q
    | _ => False
/-- arrays -/
def qSt5 (P : qSem) (y i : Nat) (o : qOp) (L : qLc) (stk : List Value) (M : qMem) (Q : qPost) : Prop :=
  match o.1 with
  | 40 => qx_40 P y i o L stk M Q
  | 41 => qx_41 P y i o L stk M Q
  | 42 => qx_42 P y i o L stk M Q
  | 43 => qx_43 P y i o L stk M Q
  | 44 => qx_44 P y i o L stk M Q
  | 45 => qx_45 P y i o L stk M Q
  | 46 => qx_46 P y i o L stk M Q
  | _ => qx_47 P y i o L stk M Q
def qx_48 (Ls : Nat) (xs : Nat → Int32) (P : qSem) (y i : Nat) (o : qOp) (L : qLc) (stk : List Value) (M : qMem) (Q : qPost) : Prop :=
  bif Nat.ble o.2.2.1 stk.length && (Nat.ble (csum (stk.drop o.2.2.1)) 8 && Nat.ble (csum (stk.take o.2.2.1)) (mL o.2.1)) then P o.2.1 0 (lv_args 0 (stk.take o.2.2.1).reverse) [] M (fun v M' => P y (i + 1) L (v.toList ++ stk.drop o.2.2.1) M' Q) else False
def qx_49 (Ls : Nat) (xs : Nat → Int32) (P : qSem) (y i : Nat) (o : qOp) (L : qLc) (stk : List Value) (M : qMem) (Q : qPost) : Prop :=
  match stk.drop o.2.2.1 with
    | .ref k :: st => bif Nat.ble o.2.2.1 stk.length && (Nat.ble (csum st) 8 && Nat.ble (csum (stk.take o.2.2.1) + 1) (mL o.2.1)) then shT k = o.2.2.2.1 ∧ P o.2.1 0 (lv_args 0 (.ref k :: (stk.take o.2.2.1).reverse)) [] M (fun v M' => P y (i + 1) L (v.toList ++ st) M' Q) else False
    | _ => False
def qx_50 (Ls : Nat) (xs : Nat → Int32) (P : qSem) (y i : Nat) (o : qOp) (L : qLc) (stk : List Value) (M : qMem) (Q : qPost) : Prop :=
  match stk with
    | [.int x] => Q (some (.int x)) M
    | _ => False
def qx_51 (Ls : Nat) (xs : Nat → Int32) (P : qSem) (y i : Nat) (o : qOp) (L : qLc) (stk : List Value) (M : qMem) (Q : qPost) : Prop :=
  match stk with
    | [.int x] => narrow .boolean (.int x) = .int x ∧ Q (some (.int x)) M
    | _ => False
def qx_52 (Ls : Nat) (xs : Nat → Int32) (P : qSem) (y i : Nat) (o : qOp) (L : qLc) (stk : List Value) (M : qMem) (Q : qPost) : Prop :=
  match stk with
    | [.long x] => Q (some (.long x)) M
    | _ => False
def qx_53 (Ls : Nat) (xs : Nat → Int32) (P : qSem) (y i : Nat) (o : qOp) (L : qLc) (stk : List Value) (M : qMem) (Q : qPost) : Prop :=
  match stk with
    | [.ref k] => Q (some (.ref k)) M
    | [.null] => Q (some .null) M
    | _ => False
def qx_54 (Ls : Nat) (xs : Nat → Int32) (P : qSem) (y i : Nat) (o : qOp) (L : qLc) (stk : List Value) (M : qMem) (Q : qPost) : Prop :=
  match stk with
    | [] => Q none M
    | _ => False
def qx_55 (Ls : Nat) (xs : Nat → Int32) (P : qSem) (y i : Nat) (o : qOp) (L : qLc) (stk : List Value) (M : qMem) (Q : qPost) : Prop :=
  match stk with
    | .ref k :: st => P y (i + 1) L (.ref k :: .ref k :: st) M Q
    | .int k :: st => P y (i + 1) L (.int k :: .int k :: st) M Q
    | _ => False
def qx_56 (Ls : Nat) (xs : Nat → Int32) (P : qSem) (y i : Nat) (o : qOp) (L : qLc) (stk : List Value) (M : qMem) (Q : qPost) : Prop :=
  match stk with
    | .int j :: .ref k :: st => P y (i + 1) L (.int j :: .ref k :: .int j :: .ref k :: st) M Q
    | _ => False
def qx_57 (Ls : Nat) (xs : Nat → Int32) (P : qSem) (y i : Nat) (o : qOp) (L : qLc) (stk : List Value) (M : qMem) (Q : qPost) : Prop :=
  match stk with
    | .long b :: .long a :: st => P y (i + 1) L (.long (a ^^^ b) :: st) M Q
    | _ => False
def qx_58 (Ls : Nat) (xs : Nat → Int32) (P : qSem) (y i : Nat) (o : qOp) (L : qLc) (stk : List Value) (M : qMem) (Q : qPost) : Prop :=
  match stk with
    | .int j :: .ref 1000 :: st => vp_in j Ls ∧ P y (i + 1) L (.int (xs j.toNatClampNeg) :: st) M Q
    | _ => False
def qx_59 (Ls : Nat) (xs : Nat → Int32) (P : qSem) (y i : Nat) (o : qOp) (L : qLc) (stk : List Value) (M : qMem) (Q : qPost) : Prop :=
  match stk with
    | .ref 1000 :: st => P y (i + 1) L (.int (Int32.ofNat Ls) :: st) M Q
    | _ => False
/-- calls, ends, the rest -/
def qSt6 (Ls : Nat) (xs : Nat → Int32) (P : qSem) (y i : Nat) (o : qOp) (L : qLc) (stk : List Value) (M : qMem) (Q : qPost) : Prop :=
  match o.1 with
  | 48 => qx_48 Ls xs P y i o L stk M Q
  | 49 => qx_49 Ls xs P y i o L stk M Q
  | 50 => qx_50 Ls xs P y i o L stk M Q
  | 51 => qx_51 Ls xs P y i o L stk M Q
  | 52 => qx_52 Ls xs P y i o L stk M Q
  | 53 => qx_53 Ls xs P y i o L stk M Q
  | 54 => qx_54 Ls xs P y i o L stk M Q
  | 55 => qx_55 Ls xs P y i o L stk M Q
  | 56 => qx_56 Ls xs P y i o L stk M Q
  | 57 => qx_57 Ls xs P y i o L stk M Q
  | 58 => qx_58 Ls xs P y i o L stk M Q
  | _ => qx_59 Ls xs P y i o L stk M Q
def qx_60 (P : qSem) (y i : Nat) (o : qOp) (L : qLc) (stk : List Value) (M : qMem) (Q : qPost) : Prop :=
  match stk with
    | .ref k :: st => shT k = o.2.1 ∧ P y (i + 1) L (.int (M.1 k o.2.2.1) :: st) M Q
    | _ => False
def qx_61 (P : qSem) (y i : Nat) (o : qOp) (L : qLc) (stk : List Value) (M : qMem) (Q : qPost) : Prop :=
  match stk with
    | .ref k :: st => shT k = o.2.1 ∧ P y (i + 1) L (.long (M.2 k o.2.2.1) :: st) M Q
    | _ => False
def qx_62 (P : qSem) (y i : Nat) (o : qOp) (L : qLc) (stk : List Value) (M : qMem) (Q : qPost) : Prop :=
  match stk with
    | .ref k :: st => shT k = o.2.1 ∧ P y (i + 1) L (.ref (rf k o.2.2.1) :: st) M Q
    | _ => False
def qx_65 (P : qSem) (y i : Nat) (o : qOp) (L : qLc) (stk : List Value) (M : qMem) (Q : qPost) : Prop :=
  match stk with
    | .int x :: .ref k :: st => shT k = o.2.1 ∧ narrow .boolean (.int x) = .int x ∧ P y (i + 1) L st (pI M k o.2.2.1 x) Q
    | _ => False
/-- nest mates' fields -/
def qSt7 (P : qSem) (y i : Nat) (o : qOp) (L : qLc) (stk : List Value) (M : qMem) (Q : qPost) : Prop :=
  match o.1 with
  | 60 => qx_60 P y i o L stk M Q
  | 61 => qx_61 P y i o L stk M Q
  | 62 => qx_62 P y i o L stk M Q
  | 65 => qx_65 P y i o L stk M Q
  | _ => False
def qStep (Ls : Nat) (xs : Nat → Int32) (P : qSem) (y i : Nat) (o : qOp) (L : qLc) (stk : List Value) (M : qMem) (Q : qPost) : Prop :=
  bif Nat.ble o.1 7 then qSt1 P y i o L stk M Q
  else bif Nat.ble o.1 27 then qSt2 P y i o L stk M Q
  else bif Nat.ble o.1 33 then qSt3 P y i o L stk M Q
  else bif Nat.ble o.1 39 then qSt4 P y i o L stk M Q
  else bif Nat.ble o.1 47 then qSt5 P y i o L stk M Q
  else bif Nat.ble o.1 59 then qSt6 Ls xs P y i o L stk M Q
  else qSt7 P y i o L stk M Q
/-- P holds wherever one step says so -/
def qClosed (Ls : Nat) (xs : Nat → Int32) (P : qSem) : Prop := ∀ (y i : Nat) (L : qLc) (stk : List Value) (M : qMem) (Q : qPost), qStep Ls xs P y i (qOp' y i) L stk M Q → P y i L stk M Q
