/-! AN INTERPRETER of the bytecode over an abstract heap: addresses are counted; a cell is a tag (0 to 7: an object of that number's kind; 8 int[], 9 boolean[], 10 char[], 11 12 13 arrays of references; 14: an int[] of somebody else's) and its values -/
abbrev qCel : Type := Nat × List Value
abbrev qHp : Type := (Nat × Nat) × (Nat → Option qCel)
abbrev qLo : Type := List (Option Value)
abbrev qCf : Type := Nat × qLo × List Value × qHp
abbrev qRs : Type := qCf ⊕ ((Nat × List Value × qCf) ⊕ Option Value)
def hU (M : qHp) (a : Nat) (c : qCel) : qHp := (M.1, fun q => if q = a then some c else M.2 q)
def hN (M : qHp) (c : qCel) : qHp := ((M.1.1 + 1, M.1.2 + c.2.length), fun q => if q = M.1.1 then some c else M.2 q)
def hG (M : qHp) (a c k : Nat) : Option Value := (M.2 a).bind fun q => if q.1 = c then q.2[k]? else none
def qFit (ty : FieldType) (v : Value) : Bool := match ty with
  | .int => match v with
    | .int _ => true
    | _ => false
  | .char => match v with
    | .int x => decide ((x.toUInt32 % 65536).toInt32 = x)
    | _ => false
  | .object _ => match v with
    | .ref _ => true
    | _ => false
  | .array _ => match v with
    | .ref _ => true
    | _ => false
  | _ => false
def hP (M : qHp) (a c k : Nat) (ty : FieldType) (v : Value) : Option qHp := (M.2 a).bind fun q => if q.1 = c ∧ k < q.2.length ∧ qFit ty v = true then some (hU M a (c, q.2.set k v)) else none
def hL (M : qHp) (t a : Nat) (i : Int32) : Option Value := (M.2 a).bind fun q => if q.1 = t ∧ ¬ i < 0 then q.2[i.toNatClampNeg]? else none
def hLI (M : qHp) (a : Nat) (i : Int32) : Option Value := (M.2 a).bind fun q => if (q.1 = 8 ∨ q.1 = 14) ∧ ¬ i < 0 then q.2[i.toNatClampNeg]? else none
def hS (M : qHp) (t a : Nat) (i : Int32) (v : Value) : Option qHp := (M.2 a).bind fun q => if q.1 = t ∧ ¬ i < 0 ∧ i.toNatClampNeg < q.2.length then some (hU M a (t, q.2.set i.toNatClampNeg v)) else none
/-- the kind of object that an array of references holds -/
def qCo2 (t : Nat) : Option Nat := if t = 11 then some 0 else if t = 12 then some 3 else if t = 13 then some 1 else none
def qTg (c : Nat) : Option Nat := if c = 0 then some 11 else if c = 3 then some 12 else if c = 1 then some 13 else none
def hLA (M : qHp) (a : Nat) (i : Int32) : Option Value := (M.2 a).bind fun q => if (11 ≤ q.1 ∧ q.1 ≤ 13) ∧ ¬ i < 0 then q.2[i.toNatClampNeg]? else none
def hSA (M : qHp) (a : Nat) (i : Int32) (b : Nat) : Option qHp := (M.2 a).bind fun q => (M.2 b).bind fun o => if qCo2 q.1 = some o.1 ∧ ¬ i < 0 ∧ i.toNatClampNeg < q.2.length then some (hU M a (q.1, q.2.set i.toNatClampNeg (.ref b))) else none
/-- n values of f from place s on, laid into g from place d on -/
def qCpy (f g : List Value) (s d n : Nat) : List Value := (List.range g.length).map fun k => if d ≤ k ∧ k < d + n then f.getD (s + (k - d)) .null else g.getD k .null
def qInts (vs : List Value) : Bool := vs.all fun v => match v with
  | .int _ => true
  | _ => false
def hC (M : qHp) (a : Nat) (s : Int32) (b : Nat) (d n : Int32) : Option qHp := (M.2 a).bind fun q => (M.2 b).bind fun o =>
  if (q.1 = 8 ∧ o.1 = 8) ∧ (¬ s < 0 ∧ ¬ d < 0 ∧ ¬ n < 0) ∧ (s.toNatClampNeg + n.toNatClampNeg ≤ q.2.length ∧ d.toNatClampNeg + n.toNatClampNeg ≤ o.2.length) ∧ (qInts q.2 = true ∧ qInts o.2 = true)
  then some (hU M b (8, qCpy q.2 o.2 s.toNatClampNeg d.toNatClampNeg n.toNatClampNeg)) else none
def qLd (L : qLo) (i : Nat) : Option Value := match L[i]? with
  | some (some v) => some v
  | _ => none
def qNl : Option (Option Value) → Bool
  | some (some (.long _)) => false
  | some (some (.double _)) => false
  | _ => true
def qS1 (L : qLo) (i : Nat) (v : Value) : Option qLo := if i < L.length ∧ (i = 0 ∨ qNl L[i - 1]? = true) then some (L.set i (some v)) else none
def qS2 (L : qLo) (i : Nat) (v : Value) : Option qLo := if i + 1 < L.length ∧ (i = 0 ∨ qNl L[i - 1]? = true) then some ((L.set i (some v)).set (i + 1) none) else none
def nx (pc : Nat) (L : qLo) (st : List Value) (M : qHp) : Option qRs := some (.inl (pc, L, st, M))
def jp (pc : Nat) (off : Int) (L : qLo) (st : List Value) (M : qHp) : Option qRs := if 0 ≤ (pc : Int) + off then nx ((pc : Int) + off).toNat L st M else none
def rt (v : Option Value) : Option qRs := some (.inr (.inr v))
def qRk (ty : Option FieldType) (v : Int32) : Bool := match ty with
  | some .int => true
  | some .boolean => decide (v = 0 ∨ v = 1)
  | some .char => decide ((v.toUInt32 % 65536).toInt32 = v)
  | _ => false
def qRo (ty : Option FieldType) : Bool := match ty with
  | some (.object _) => true
  | _ => false
def qDf (c : Nat) : List Value := (List.range (qN c)).map fun k => defaultValue (qV c k)
/-- what lies under the arguments of a call takes at most eight words -/
abbrev qSm (rest : List Value) : Prop := rest.length ≤ 4 ∨ (rest.map fun v => v.category).sum ≤ 8
/-- a call of method y from method z -/
def qCall (z y : Nat) (As rest : List Value) (pc : Nat) (L : qLo) (M : qHp) : Option qRs :=
  if (qFr y + 1 ≤ qFr z ∧ 8 + (qL y + 11) + qWd y ≤ qWd z) ∧ (qSm rest ∧ (lg_sl As).length ≤ qL y) then some (.inr (.inl (y, As, (pc + 3, L, rest, M)))) else none
def qStepI (z : Nat) (i : Instr) (k pc : Nat) (L : qLo) (st : List Value) (M : qHp) : Option qRs := match i with
  | .iconst n => if k = 1 then nx (pc + 1) L (.int (Int32.ofInt n) :: st) M else none
  | .bipush n => if k = 2 then nx (pc + 2) L (.int (Int8.ofInt n).toInt32 :: st) M else none
  | .sipush n => if k = 3 then nx (pc + 3) L (.int (Int16.ofInt n).toInt32 :: st) M else none
  | .lconst n => if k = 1 then nx (pc + 1) L (.long (Int64.ofNat (n : Nat)) :: st) M else none
  | .aconst_null => if k = 1 then nx (pc + 1) L (.null :: st) M else none
  | .ldc i => if k = 2 then (qCi (qO z) i).bind fun v => nx (pc + 2) L (.int v :: st) M else none
  | .ldc2_w i => if k = 3 then (qCo (qO z) i).bind fun v => nx (pc + 3) L (.long v :: st) M else none
  | .iload i => if k = 2 then (match qLd L i with
    | some (.int x) => nx (pc + 2) L (.int x :: st) M
    | _ => none) else none
  | .iload_n i => if k = 1 then (match qLd L i with
    | some (.int x) => nx (pc + 1) L (.int x :: st) M
    | _ => none) else none
  | .lload i => if k = 2 then (match qLd L i with
    | some (.long x) => nx (pc + 2) L (.long x :: st) M
    | _ => none) else none
  | .lload_n i => if k = 1 then (match qLd L i with
    | some (.long x) => nx (pc + 1) L (.long x :: st) M
    | _ => none) else none
  | .aload i => if k = 2 then (match qLd L i with
    | some (.ref x) => nx (pc + 2) L (.ref x :: st) M
    | some .null => nx (pc + 2) L (.null :: st) M
    | _ => none) else none
  | .aload_n i => if k = 1 then (match qLd L i with
    | some (.ref x) => nx (pc + 1) L (.ref x :: st) M
    | some .null => nx (pc + 1) L (.null :: st) M
    | _ => none) else none
  | .istore i => if k = 2 then (match st with
    | .int x :: st => (qS1 L i (.int x)).bind fun L => nx (pc + 2) L st M
    | _ => none) else none
  | .istore_n i => if k = 1 then (match st with
    | .int x :: st => (qS1 L i (.int x)).bind fun L => nx (pc + 1) L st M
    | _ => none) else none
  | .lstore i => if k = 2 then (match st with
    | .long x :: st => (qS2 L i (.long x)).bind fun L => nx (pc + 2) L st M
    | _ => none) else none
  | .lstore_n i => if k = 1 then (match st with
    | .long x :: st => (qS2 L i (.long x)).bind fun L => nx (pc + 1) L st M
    | _ => none) else none
  | .astore i => if k = 2 then (match st with
    | .ref x :: st => (qS1 L i (.ref x)).bind fun L => nx (pc + 2) L st M
    | .null :: st => (qS1 L i .null).bind fun L => nx (pc + 2) L st M
    | _ => none) else none
  | .astore_n i => if k = 1 then (match st with
    | .ref x :: st => (qS1 L i (.ref x)).bind fun L => nx (pc + 1) L st M
    | .null :: st => (qS1 L i .null).bind fun L => nx (pc + 1) L st M
    | _ => none) else none
  | .iinc i n => if k = 3 then (match qLd L i with
    | some (.int x) => (qS1 L i (.int (x + Int32.ofInt n))).bind fun L => nx (pc + 3) L st M
    | _ => none) else none
  | .iadd => if k = 1 then (match st with
    | .int y :: .int x :: st => nx (pc + 1) L (.int (x + y) :: st) M
    | _ => none) else none
  | .isub => if k = 1 then (match st with
    | .int y :: .int x :: st => nx (pc + 1) L (.int (x - y) :: st) M
    | _ => none) else none
  | .imul => if k = 1 then (match st with
    | .int y :: .int x :: st => nx (pc + 1) L (.int (x * y) :: st) M
    | _ => none) else none
  | .iand => if k = 1 then (match st with
    | .int y :: .int x :: st => nx (pc + 1) L (.int (x &&& y) :: st) M
    | _ => none) else none
  | .idiv => if k = 1 then (match st with
    | .int y :: .int x :: st => if y = 0 then none else nx (pc + 1) L (.int (x / y) :: st) M
    | _ => none) else none
  | .irem => if k = 1 then (match st with
    | .int y :: .int x :: st => if y = 0 then none else nx (pc + 1) L (.int (x - x / y * y) :: st) M
    | _ => none) else none
  | .lsub => if k = 1 then (match st with
    | .long y :: .long x :: st => nx (pc + 1) L (.long (x - y) :: st) M
    | _ => none) else none
  | .land => if k = 1 then (match st with
    | .long y :: .long x :: st => nx (pc + 1) L (.long (x &&& y) :: st) M
    | _ => none) else none
  | .lor => if k = 1 then (match st with
    | .long y :: .long x :: st => nx (pc + 1) L (.long (x ||| y) :: st) M
    | _ => none) else none
  | .lshl => if k = 1 then (match st with
    | .int y :: .long x :: st => nx (pc + 1) L (.long (x <<< (y.toInt64 &&& 63)) :: st) M
    | _ => none) else none
  | .lshr => if k = 1 then (match st with
    | .int y :: .long x :: st => nx (pc + 1) L (.long (x >>> (y.toInt64 &&& 63)) :: st) M
    | _ => none) else none
  | .lushr => if k = 1 then (match st with
    | .int y :: .long x :: st => nx (pc + 1) L (.long (x.toUInt64 >>> (y.toInt64.toUInt64 &&& Int64.toUInt64 63)).toInt64 :: st) M
    | _ => none) else none
  | .lcmp => if k = 1 then (match st with
    | .long y :: .long x :: st => nx (pc + 1) L (.int (lg_cmp x y) :: st) M
    | _ => none) else none
  | .i2l => if k = 1 then (match st with
    | .int x :: st => nx (pc + 1) L (.long x.toInt64 :: st) M
    | _ => none) else none
  | .l2i => if k = 1 then (match st with
    | .long x :: st => nx (pc + 1) L (.int x.toInt32 :: st) M
    | _ => none) else none
  | .i2c => if k = 1 then (match st with
    | .int x :: st => nx (pc + 1) L (.int (x.toUInt32 % 65536).toInt32 :: st) M
    | _ => none) else none
  | .dup => if k = 1 then (match st with
    | .int x :: st => nx (pc + 1) L (.int x :: .int x :: st) M
    | .ref x :: st => nx (pc + 1) L (.ref x :: .ref x :: st) M
    | _ => none) else none
  | .dup2 => if k = 1 then (match st with
    | .int y :: .ref x :: st => nx (pc + 1) L (.int y :: .ref x :: .int y :: .ref x :: st) M
    | _ => none) else none
  | .dup_x1 => if k = 1 then (match st with
    | .int y :: .ref x :: st => nx (pc + 1) L (.int y :: .ref x :: .int y :: st) M
    | _ => none) else none
  | .pop => if k = 1 then (match st with
    | .int _ :: st => nx (pc + 1) L st M
    | .ref _ :: st => nx (pc + 1) L st M
    | _ => none) else none
  | .ifCond .eq off => if k = 3 ∧ 0 ≤ (pc : Int) + off then (match st with
    | .int x :: st => if x = 0 then nx ((pc : Int) + off).toNat L st M else nx (pc + 3) L st M
    | _ => none) else none
  | .ifCond .ne off => if k = 3 ∧ 0 ≤ (pc : Int) + off then (match st with
    | .int x :: st => if x = 0 then nx (pc + 3) L st M else nx ((pc : Int) + off).toNat L st M
    | _ => none) else none
  | .ifCond .lt off => if k = 3 ∧ 0 ≤ (pc : Int) + off then (match st with
    | .int x :: st => if x < 0 then nx ((pc : Int) + off).toNat L st M else nx (pc + 3) L st M
    | _ => none) else none
  | .ifCond .ge off => if k = 3 ∧ 0 ≤ (pc : Int) + off then (match st with
    | .int x :: st => if 0 ≤ x then nx ((pc : Int) + off).toNat L st M else nx (pc + 3) L st M
    | _ => none) else none
  | .ifCond .gt off => if k = 3 ∧ 0 ≤ (pc : Int) + off then (match st with
    | .int x :: st => if 0 < x then nx ((pc : Int) + off).toNat L st M else nx (pc + 3) L st M
    | _ => none) else none
  | .ifCond .le off => if k = 3 ∧ 0 ≤ (pc : Int) + off then (match st with
    | .int x :: st => if x ≤ 0 then nx ((pc : Int) + off).toNat L st M else nx (pc + 3) L st M
    | _ => none) else none
  | .if_icmp .eq off => if k = 3 ∧ 0 ≤ (pc : Int) + off then (match st with
    | .int y :: .int x :: st => if x = y then nx ((pc : Int) + off).toNat L st M else nx (pc + 3) L st M
    | _ => none) else none
  | .if_icmp .ne off => if k = 3 ∧ 0 ≤ (pc : Int) + off then (match st with
    | .int y :: .int x :: st => if x = y then nx (pc + 3) L st M else nx ((pc : Int) + off).toNat L st M
    | _ => none) else none
  | .if_icmp .lt off => if k = 3 ∧ 0 ≤ (pc : Int) + off then (match st with
    | .int y :: .int x :: st => if x < y then nx ((pc : Int) + off).toNat L st M else nx (pc + 3) L st M
    | _ => none) else none
  | .if_icmp .ge off => if k = 3 ∧ 0 ≤ (pc : Int) + off then (match st with
    | .int y :: .int x :: st => if y ≤ x then nx ((pc : Int) + off).toNat L st M else nx (pc + 3) L st M
    | _ => none) else none
  | .if_icmp .gt off => if k = 3 ∧ 0 ≤ (pc : Int) + off then (match st with
    | .int y :: .int x :: st => if y < x then nx ((pc : Int) + off).toNat L st M else nx (pc + 3) L st M
    | _ => none) else none
  | .if_icmp .le off => if k = 3 ∧ 0 ≤ (pc : Int) + off then (match st with
    | .int y :: .int x :: st => if x ≤ y then nx ((pc : Int) + off).toNat L st M else nx (pc + 3) L st M
    | _ => none) else none
  | .ifnull off => if k = 3 ∧ 0 ≤ (pc : Int) + off then (match st with
    | .ref _ :: st => nx (pc + 3) L st M
    | .null :: st => nx ((pc : Int) + off).toNat L st M
    | _ => none) else none
  | .ifnonnull off => if k = 3 ∧ 0 ≤ (pc : Int) + off then (match st with
    | .ref _ :: st => nx ((pc : Int) + off).toNat L st M
    | .null :: st => nx (pc + 3) L st M
    | _ => none) else none
  | .goto off => if k = 3 ∧ 0 ≤ (pc : Int) + off then nx ((pc : Int) + off).toNat L st M else none
  | .tableswitch d lo hi offs => (match st with
    | .int x :: st => if x.toInt < lo ∨ hi < x.toInt then jp pc d L st M else (match offs[(x.toInt - lo).toNat]? with
      | some off => jp pc off L st M
      | none => none)
    | _ => none)
  | .lookupswitch d ps => (match st with
    | .int x :: st => if (ps.toList.zip (ps.toList.drop 1)).all (fun (a, next) => a.1 < next.1) = true then jp pc (Op.lookupswitch.offset ps.toList d x.toInt) L st M else none
    | _ => none)
  | .getfield i => if k = 3 then (match st with
    | .ref a :: st => (qFld (qO z) i).bind fun q => (hG M a q.1 q.2).bind fun v => nx (pc + 3) L (v :: st) M
    | _ => none) else none
  | .putfield i => if k = 3 then (match st with
    | v :: .ref a :: st => (qFld (qO z) i).bind fun q => if (qT q.1 q.2).2.2.2 = true ∧ ¬ (qK z = 2 ∧ qO z = q.1) then none else (hP M a q.1 q.2 (qV q.1 q.2) v).bind fun M => nx (pc + 3) L st M
    | _ => none) else none
  | .getstatic i => if k = 3 then (qSta (qO z) i).bind fun q => nx (pc + 3) L (.ref q.2 :: st) M else none
  | .iaload => if k = 1 then (match st with
    | .int i :: .ref a :: st => (hLI M a i).bind fun v => nx (pc + 1) L (v :: st) M
    | _ => none) else none
  | .baload => if k = 1 then (match st with
    | .int i :: .ref a :: st => (hL M 9 a i).bind fun v => nx (pc + 1) L (v :: st) M
    | _ => none) else none
  | .caload => if k = 1 then (match st with
    | .int i :: .ref a :: st => (hL M 10 a i).bind fun v => nx (pc + 1) L (v :: st) M
    | _ => none) else none
  | .aaload => if k = 1 then (match st with
    | .int i :: .ref a :: st => (hLA M a i).bind fun v => nx (pc + 1) L (v :: st) M
    | _ => none) else none
  | .iastore => if k = 1 then (match st with
    | .int x :: .int i :: .ref a :: st => (hS M 8 a i (.int x)).bind fun M => nx (pc + 1) L st M
    | _ => none) else none
  | .bastore => if k = 1 then (match st with
    | .int x :: .int i :: .ref a :: st => if x = 0 ∨ x = 1 then (hS M 9 a i (.int x)).bind fun M => nx (pc + 1) L st M else none
    | _ => none) else none
  | .castore => if k = 1 then (match st with
    | .int x :: .int i :: .ref a :: st => if (x.toUInt32 % 65536).toInt32 = x then (hS M 10 a i (.int x)).bind fun M => nx (pc + 1) L st M else none
    | _ => none) else none
  | .aastore => if k = 1 then (match st with
    | .ref b :: .int i :: .ref a :: st => (hSA M a i b).bind fun M => nx (pc + 1) L st M
    | _ => none) else none
  | .arraylength => if k = 1 then (match st with
    | .ref a :: st => (M.2 a).bind fun q => if q.1 = 14 then nx (pc + 1) L (.int (Int32.ofNat q.2.length) :: st) M else none
    | _ => none) else none
  | .newarray t => if k = 2 then (match st with
    | .int n :: st => if ¬ n < 0 ∧ n.toNatClampNeg ≤ 100000 then (match t with
      | .int => nx (pc + 2) L (.ref M.1.1 :: st) (hN M (8, List.replicate n.toNatClampNeg (.int 0)))
      | .boolean => nx (pc + 2) L (.ref M.1.1 :: st) (hN M (9, List.replicate n.toNatClampNeg (.int 0)))
      | .char => nx (pc + 2) L (.ref M.1.1 :: st) (hN M (10, List.replicate n.toNatClampNeg (.int 0)))
      | _ => none) else none
    | _ => none) else none
  | .anewarray i => if k = 3 then (match st with
    | .int n :: st => if ¬ n < 0 ∧ n.toNatClampNeg ≤ 100000 then (qCla (qO z) i).bind fun c => (qTg c).bind fun t => nx (pc + 3) L (.ref M.1.1 :: st) (hN M (t, List.replicate n.toNatClampNeg .null)) else none
    | _ => none) else none
  | .new i => if k = 3 then (qCla (qO z) i).bind fun c => nx (pc + 3) L (.ref M.1.1 :: st) (hN M (c, qDf c)) else none
  | .invokevirtual i => if k = 3 then (qMth (qO z) i).bind fun q => if q.1 = false ∧ q.2 < 148 ∧ qK q.2 = 0 then (match st.drop (qA q.2) with
      | .ref a :: rest => (M.2 a).bind fun o => if o.1 = qO q.2 ∧ o.1 < 8 then qCall z q.2 (.ref a :: (st.take (qA q.2)).reverse) rest pc L M else none
      | _ => none) else none
    else none
  | .invokestatic i => if k = 3 then (qMth (qO z) i).bind fun q => if q.1 = false then
      (if q.2 = 148 then (match st with
        | .int y :: .int x :: st => if 1 ≤ qFr z ∧ st.length ≤ 4 ∧ 21 ≤ qWd z then nx (pc + 3) L (.int (if x < y then y else x) :: st) M else none
        | _ => none)
      else if q.2 = 149 then (match st with
        | .int y :: .int x :: st => if 1 ≤ qFr z ∧ st.length ≤ 4 ∧ 21 ≤ qWd z then nx (pc + 3) L (.int (if y < x then y else x) :: st) M else none
        | _ => none)
      else if q.2 = 201 then (match st with
        | .int n :: .int d :: .ref b :: .int s :: .ref a :: st => if 1 ≤ qFr z ∧ st.length ≤ 4 ∧ 26 ≤ qWd z then (hC M a s b d n).bind fun M => nx (pc + 3) L st M else none
        | _ => none)
      else if q.2 < 148 ∧ qK q.2 = 1 ∧ qA q.2 ≤ st.length then qCall z q.2 (st.take (qA q.2)).reverse (st.drop (qA q.2)) pc L M else none)
      else none
    else none
  | .invokespecial i => if k = 3 then (qMth (qO z) i).bind fun q =>
      if q.2 = 200 then (match st with
        | .ref _ :: st => if 1 ≤ qFr z ∧ st.length ≤ 4 ∧ 20 ≤ qWd z then nx (pc + 3) L st M else none
        | _ => none)
      else if q.2 < 148 ∧ qK q.2 = 2 then (match st.drop (qA q.2) with
        | .ref a :: rest => qCall z q.2 (.ref a :: (st.take (qA q.2)).reverse) rest pc L M
        | _ => none) else none
    else none
  | .ireturn => if k = 1 then (match st with
    | [.int v] => if qRk (qRt z) v = true then rt (some (.int v)) else none
    | _ => none) else none
  | .lreturn => if k = 1 then (match st with
    | [.long v] => if qRt z = some .long then rt (some (.long v)) else none
    | _ => none) else none
  | .areturn => if k = 1 then (match st with
    | [.ref a] => if qRo (qRt z) = true then rt (some (.ref a)) else none
    | [.null] => if qRo (qRt z) = true then rt (some .null) else none
    | _ => none) else none
  | .return_ => if k = 1 then (match st with
    | [] => if qRt z = none then rt none else none
    | _ => none) else none
  | _ => none
def qFetch (z pc : Nat) : Option (Instr × Nat) := match decode (qB z) pc with
  | .ok q => some q
  | .error _ => none
def qInv (i : Instr) : Bool := match i with
  | .invokevirtual _ => true
  | .invokestatic _ => true
  | .invokespecial _ => true
  | _ => false
def qEnd (i : Instr) : Bool := match i with
  | .ireturn => true
  | .lreturn => true
  | .areturn => true
  | .return_ => true
  | _ => false
def qFlt (i : Instr) (r : Option qRs) : Option qRs := match r with
  | some (.inl f) => some (.inl f)
  | some (.inr (.inl f)) => if qInv i = true then some (.inr (.inl f)) else none
  | some (.inr (.inr v)) => if qEnd i = true then some (.inr (.inr v)) else none
  | none => none
theorem qFlt_inl {i : Instr} {r : Option qRs} {f : qCf} (h : qFlt i r = some (.inl f)) : r = some (.inl f) := by
  unfold qFlt at h
  split at h
  · exact h
  · split at h <;> cases h
  · split at h <;> cases h
  · cases h
theorem qFlt_call {i : Instr} {r : Option qRs} {f : Nat × List Value × qCf} (h : qFlt i r = some (.inr (.inl f))) : r = some (.inr (.inl f)) ∧ qInv i = true := by
  unfold qFlt at h
  split at h
  · cases h
  · split at h
    · rename_i hi; exact ⟨h, hi⟩
    · cases h
  · split at h <;> cases h
  · cases h
theorem qFlt_end {i : Instr} {r : Option qRs} {v : Option Value} (h : qFlt i r = some (.inr (.inr v))) : r = some (.inr (.inr v)) ∧ qEnd i = true := by
  unfold qFlt at h
  split at h
  · cases h
  · split at h <;> cases h
  · split at h
    · rename_i hi; exact ⟨h, hi⟩
    · cases h
  · cases h
def qStep (z : Nat) (c : qCf) : Option qRs := (qFetch z c.1).bind fun q => qFlt q.1 (qStepI z q.1 q.2 c.1 c.2.1 c.2.2.1 c.2.2.2)
def qEntry (z : Nat) (As : List Value) : qLo := (As.flatMap fun v => if v.category = 2 then [some v, none] else [some v]) ++ List.replicate (qL z - (lg_sl As).length) none
def qExec : Nat → Nat → qCf → Option (Option Value × qHp)
  | 0, _, _ => none
  | n + 1, z, c => match qStep z c with
    | none => none
    | some (.inl c') => if c.2.2.2.1.1 ≤ c'.2.2.2.1.1 ∧ c.2.2.2.1.2 ≤ c'.2.2.2.1.2 then qExec n z c' else none
    | some (.inr (.inl (y, As, c'))) => (qExec n y (0, qEntry y As, [], c.2.2.2)).bind fun q => if q.2.1 = (c.2.2.2.1.1 + qMc y, c.2.2.2.1.2 + qMs y) then qExec n z (c'.1, c'.2.1, q.1.toList ++ c'.2.2.1, q.2) else none
    | some (.inr (.inr r)) => some (r, c.2.2.2)
theorem qExec_mono : ∀ (n : Nat) (z : Nat) (c : qCf) (r : Option Value × qHp), qExec n z c = some r → qExec (n + 1) z c = some r := by
  intro n
  induction n with
  | zero => intro z c r h; simp [qExec] at h
  | succ n ih =>
    intro z c r h
    rw [qExec] at h ⊢
    cases hs : qStep z c with
    | none => rw [hs] at h; cases h
    | some q =>
      rw [hs] at h
      rcases q with c' | ⟨y, As, c'⟩ | v
      · simp only at h ⊢
        split at h
        · rename_i he
          rw [if_pos he]
          exact ih _ _ _ h
        · cases h
      · simp only at h ⊢
        obtain ⟨q, hq, hk⟩ := Option.bind_eq_some_iff.mp h
        rw [ih _ _ _ hq]
        simp only [Option.bind_some]
        split at hk
        · rename_i he
          rw [if_pos he]
          exact ih _ _ _ hk
        · cases hk
      · exact h
theorem qExec_up : ∀ (n : Nat) (z : Nat) (c : qCf) (r : Option Value) (M : qHp), qExec n z c = some (r, M) → c.2.2.2.1.1 ≤ M.1.1 ∧ c.2.2.2.1.2 ≤ M.1.2 := by
  intro n
  induction n with
  | zero => intro z c r M h; simp [qExec] at h
  | succ n ih =>
    intro z c r M h
    rw [qExec] at h
    cases hs : qStep z c with
    | none => rw [hs] at h; cases h
    | some q =>
      rw [hs] at h
      rcases q with c' | ⟨y, As, c'⟩ | v
      · simp only at h
        split at h
        · rename_i he
          have := ih _ _ _ _ h
          omega
        · cases h
      · simp only at h
        obtain ⟨q, hq, hk⟩ := Option.bind_eq_some_iff.mp h
        split at hk
        · rename_i he
          have h1 := ih _ _ _ _ hk
          simp only [he] at h1
          omega
        · cases hk
      · cases h
        exact ⟨Nat.le_refl _, Nat.le_refl _⟩
theorem qExec_le {n m : Nat} (hle : n ≤ m) {z : Nat} {c : qCf} {r : Option Value × qHp} (h : qExec n z c = some r) : qExec m z c = some r := by
  induction hle with
  | refl => exact h
  | step _ ih => exact qExec_mono _ _ _ _ ih
noncomputable def qEx (z : Nat) (c : qCf) : Option (Option Value × qHp) := @dite _ (∃ (r : Option Value × qHp) (n : Nat), qExec n z c = some r) (Classical.propDecidable _) (fun h => some (Classical.choose h)) (fun _ => none)
theorem qEx_iff {z : Nat} {c : qCf} {r : Option Value × qHp} : qEx z c = some r ↔ ∃ n, qExec n z c = some r := by
  unfold qEx
  by_cases h : ∃ (r : Option Value × qHp) (n : Nat), qExec n z c = some r
  · rw [dif_pos h]
    obtain ⟨m, hm⟩ := Classical.choose_spec h
    constructor
    · intro e
      cases e
      exact ⟨m, hm⟩
    · rintro ⟨n, hn⟩
      have h1 := qExec_le (Nat.le_max_left n m) hn
      have h2 := qExec_le (Nat.le_max_right n m) hm
      rw [h1] at h2
      exact h2.symm
  · rw [dif_neg h]
    constructor
    · intro e; cases e
    · rintro ⟨n, hn⟩
      exact absurd ⟨r, n, hn⟩ h
theorem qEx_eq {z z' : Nat} {c c' : qCf} (h : ∀ r, qEx z c = some r ↔ qEx z' c' = some r) : qEx z c = qEx z' c' := by
  cases h1 : qEx z c with
  | some r => exact ((h r).mp h1).symm
  | none =>
    cases h2 : qEx z' c' with
    | none => rfl
    | some r => rw [(h r).mpr h2] at h1; cases h1
theorem qEx_next {z : Nat} {c c' : qCf} (h : qStep z c = some (.inl c')) (hle : c.2.2.2.1.1 ≤ c'.2.2.2.1.1 ∧ c.2.2.2.1.2 ≤ c'.2.2.2.1.2) : qEx z c = qEx z c' := by
  refine qEx_eq fun r => ?_
  rw [qEx_iff, qEx_iff]
  constructor
  · rintro ⟨n, hn⟩
    cases n with
    | zero => simp [qExec] at hn
    | succ n =>
      rw [qExec, h] at hn
      simp only at hn
      rw [if_pos hle] at hn
      exact ⟨n, hn⟩
  · rintro ⟨n, hn⟩
    exact ⟨n + 1, by rw [qExec, h]; simp only; rw [if_pos hle]; exact hn⟩
theorem qEx_ret {z : Nat} {c : qCf} {v : Option Value} (h : qStep z c = some (.inr (.inr v))) : qEx z c = some (v, c.2.2.2) := qEx_iff.mpr ⟨1, by rw [qExec, h]⟩
/-- a method, from its start, with what it makes counted -/
noncomputable def qRun (y : Nat) (As : List Value) (M : qHp) : Option (Option Value × qHp) := (qEx y (0, qEntry y As, [], M)).bind fun q => if q.2.1 = (M.1.1 + qMc y, M.1.2 + qMs y) then some q else none
theorem qEx_call {z y : Nat} {As : List Value} {c c' : qCf} (h : qStep z c = some (.inr (.inl (y, As, c')))) : qEx z c = (qRun y As c.2.2.2).bind fun q => qEx z (c'.1, c'.2.1, q.1.toList ++ c'.2.2.1, q.2) := by
  have key : ∀ r, qEx z c = some r ↔ ((qRun y As c.2.2.2).bind fun q => qEx z (c'.1, c'.2.1, q.1.toList ++ c'.2.2.1, q.2)) = some r := by
    intro r
    rw [qEx_iff]
    constructor
    · rintro ⟨n, hn⟩
      cases n with
      | zero => simp [qExec] at hn
      | succ n =>
        rw [qExec, h] at hn
        obtain ⟨q, hq, hk⟩ := Option.bind_eq_some_iff.mp hn
        split at hk
        · rename_i he
          rw [qRun, qEx_iff.mpr ⟨n, hq⟩]
          simp only [Option.bind_some]
          rw [if_pos he]
          simp only [Option.bind_some]
          exact qEx_iff.mpr ⟨n, hk⟩
        · cases hk
    · intro hr
      obtain ⟨q, hq, hk⟩ := Option.bind_eq_some_iff.mp hr
      rw [qRun] at hq
      obtain ⟨q', hq', hk'⟩ := Option.bind_eq_some_iff.mp hq
      split at hk'
      · rename_i he
        cases hk'
        obtain ⟨n, hn⟩ := qEx_iff.mp hq'
        obtain ⟨m, hm⟩ := qEx_iff.mp hk
        refine ⟨max n m + 1, ?_⟩
        rw [qExec, h]
        simp only
        rw [qExec_le (Nat.le_max_left n m) hn]
        simp only [Option.bind_some]
        rw [if_pos he]
        exact qExec_le (Nat.le_max_right n m) hm
      · cases hk'
  cases h1 : qEx z c with
  | some r => exact ((key r).mp h1).symm
  | none =>
    cases h2 : ((qRun y As c.2.2.2).bind fun q => qEx z (c'.1, c'.2.1, q.1.toList ++ c'.2.2.1, q.2)) with
    | none => rfl
    | some r => rw [(key r).mpr h2] at h1; cases h1
theorem qRun_of {y : Nat} {As : List Value} {M M' : qHp} {v : Option Value} (h : qEx y (0, qEntry y As, [], M) = some (v, M')) (hc : M'.1 = (M.1.1 + qMc y, M.1.2 + qMs y)) : qRun y As M = some (v, M') := by
  rw [qRun, h]
  simp only [Option.bind_some]
  rw [if_pos hc]
