/-! MA: an abstract machine. Its heap is a list of cells; a reference is the number of a cell; cell 0 is the law's script (array class 9). Array classes by numbers: 0 int, 1 long, 2 .. 5 the class's own. -/
abbrev ma_I : Type := Instr × Nat
abbrev ma_L : Type := List (Option Value)
abbrev ma_G : Type := List va_E
abbrev ma_O : Type := (Option Value) ⊕ Nat
abbrev ma_R : Type := ma_O × ma_G × Nat × Nat
abbrev ma_S : Type := Nat × ma_L × List Value × ma_G
def ma_ty (t : Nat) : FieldType := match t with
  | 0 => .int
  | 1 => .long
  | 2 => .object RX4
  | 3 => .object RX0
  | 4 => .object RX1
  | _ => .object RX5
def ma_tci (t : Nat) : Option Nat := match t with
  | 2 => some 4
  | 3 => some 0
  | 4 => some 1
  | 5 => some 5
  | _ => none
def ma_fty (ci : Nat) : Nat → FieldType := match ci with
  | 0 => tyX0
  | 1 => tyX1
  | 2 => tyX2
  | 3 => tyX3
  | 4 => tyX4
  | 5 => tyX5
  | 6 => tyX6
  | _ => tyX7
def ma_isI (t : FieldType) : Bool := match t with
  | .int => true
  | _ => false
def ma_isR (t : FieldType) : Bool := match t with
  | .array _ => true
  | .object _ => true
  | _ => false
def ma_N (ci : Nat) : Nat := match vwCl[ci]? with
  | some q => q.2.2
  | none => 0
def ma_dfl (ci : Nat) : List Value := (List.range (ma_N ci)).map (fun k => defaultValue (ma_fty ci k))
def ma_ok1 (L : ma_L) (i : Nat) : Bool := match i with
  | 0 => true
  | j + 1 => match L[j]? with
    | some (some v) => v.category == 1
    | _ => true
def ma_put1 (L : ma_L) (i : Nat) (v : Value) : Option ma_L := if i < L.length then (if ma_ok1 L i then some (L.set i (some v)) else none) else none
def ma_put2 (L : ma_L) (i : Nat) (v : Value) : Option ma_L := if i + 1 < L.length then (if ma_ok1 L i then some ((L.set i (some v)).set (i + 1) none) else none) else none
def ma_ldi (L : ma_L) (i : Nat) : Option Int32 := match L[i]? with
  | some (some (.int x)) => some x
  | _ => none
def ma_ldl (L : ma_L) (i : Nat) : Option Int64 := match L[i]? with
  | some (some (.long x)) => some x
  | _ => none
def ma_lda (L : ma_L) (i : Nat) : Option Nat := match L[i]? with
  | some (some (.ref x)) => some x
  | _ => none
def ma_if (c : ClassFile.Cond) (x : Int32) : Bool := match c with
  | .eq => decide (x = 0)
  | .ne => decide (¬ x = 0)
  | .lt => decide (x < 0)
  | .ge => decide (0 ≤ x)
  | .gt => decide (0 < x)
  | .le => decide (x ≤ 0)
def ma_cmp (c : ClassFile.Cond) (x y : Int32) : Bool := match c with
  | .eq => decide (x = y)
  | .ne => decide (¬ x = y)
  | .lt => decide (x < y)
  | .ge => decide (y ≤ x)
  | .gt => decide (y < x)
  | .le => decide (x ≤ y)
def ma_obj (G : ma_G) (a ci : Nat) : Option (List Value) := match G[a]? with
  | some (.inr o) => if o.1 = ci then some o.2 else none
  | _ => none
def ma_ints (G : ma_G) (a : Nat) : Option (Nat × (Nat → Int32)) := match G[a]? with
  | some (.inl (t, n, .inl f)) => if t = 0 then some (n, f) else none
  | _ => none
def ma_scr (G : ma_G) (a : Nat) : Option (Nat × (Nat → Int32)) := if a = 0 then match G[a]? with
    | some (.inl (_, n, .inl f)) => some (n, f)
    | _ => none else none
def ma_longs (G : ma_G) (a : Nat) : Option (Nat × (Nat → Int64)) := match G[a]? with
  | some (.inl (t, n, .inr (.inl f))) => if t = 1 then some (n, f) else none
  | _ => none
def ma_refs (G : ma_G) (a : Nat) : Option (Nat × Nat × (Nat → Option Nat)) := match G[a]? with
  | some (.inl (t, n, .inr (.inr (.inr (.inr f))))) => if 2 ≤ t ∧ t ≤ 5 then some (t, n, f) else none
  | _ => none
/-- a place in an array of n -/
def ma_ix (i : Int32) (n : Nat) : Option Nat := if i < 0 then none else if i.toNatClampNeg < n then some i.toNatClampNeg else none
def ma_tgt (pc : Nat) (off : Int) : Nat := ((pc : Int) + off).toNat
/-- one instruction that neither calls, nor makes, nor ends -/
def ma_step (x : Instr) (aux pc : Nat) (L : ma_L) (S : List Value) (G : ma_G) : Option ma_S := match x with
  | .iconst n => some (pc + 1, L, .int (Int32.ofInt n) :: S, G)
  | .bipush n => some (pc + 2, L, .int ((Int8.ofInt n).toInt32) :: S, G)
  | .sipush n => some (pc + 3, L, .int ((Int16.ofInt n).toInt32) :: S, G)
  | .lconst n => some (pc + 1, L, .long (Int64.ofNat (n : Nat)) :: S, G)
  | .ldc _ => some (pc + 2, L, .int (nI aux) :: S, G)
  | .ldc2_w _ => some (pc + 3, L, .long (lN aux) :: S, G)
  | .iload i => (ma_ldi L i).map fun v => (pc + 2, L, .int v :: S, G)
  | .iload_n i => (ma_ldi L (i : Nat)).map fun v => (pc + 1, L, .int v :: S, G)
  | .lload i => (ma_ldl L i).map fun v => (pc + 2, L, .long v :: S, G)
  | .lload_n i => (ma_ldl L (i : Nat)).map fun v => (pc + 1, L, .long v :: S, G)
  | .aload i => (ma_lda L i).map fun v => (pc + 2, L, .ref v :: S, G)
  | .aload_n i => (ma_lda L (i : Nat)).map fun v => (pc + 1, L, .ref v :: S, G)
  | .istore i => match S with
    | .int v :: S => (ma_put1 L i (.int v)).map fun L' => (pc + 2, L', S, G)
    | _ => none
  | .istore_n i => match S with
    | .int v :: S => (ma_put1 L (i : Nat) (.int v)).map fun L' => (pc + 1, L', S, G)
    | _ => none
  | .astore i => match S with
    | .ref v :: S => (ma_put1 L i (.ref v)).map fun L' => (pc + 2, L', S, G)
    | _ => none
  | .astore_n i => match S with
    | .ref v :: S => (ma_put1 L (i : Nat) (.ref v)).map fun L' => (pc + 1, L', S, G)
    | _ => none
  | .lstore i => match S with
    | .long v :: S => (ma_put2 L i (.long v)).map fun L' => (pc + 2, L', S, G)
    | _ => none
  | .lstore_n i => match S with
    | .long v :: S => (ma_put2 L (i : Nat) (.long v)).map fun L' => (pc + 1, L', S, G)
    | _ => none
  | .iinc i n => match ma_ldi L i with
    | some v => (ma_put1 L i (.int (v + Int32.ofInt n))).map fun L' => (pc + 3, L', S, G)
    | none => none
  | .iadd => match S with
    | .int b :: .int a :: S => some (pc + 1, L, .int (a + b) :: S, G)
    | _ => none
  | .isub => match S with
    | .int b :: .int a :: S => some (pc + 1, L, .int (a - b) :: S, G)
    | _ => none
  | .imul => match S with
    | .int b :: .int a :: S => some (pc + 1, L, .int (a * b) :: S, G)
    | _ => none
  | .idiv => match S with
    | .int b :: .int a :: S => if b = 0 then none else some (pc + 1, L, .int (a / b) :: S, G)
    | _ => none
  | .irem => match S with
    | .int b :: .int a :: S => if b = 0 then none else some (pc + 1, L, .int (a - a / b * b) :: S, G)
    | _ => none
  | .iand => match S with
    | .int b :: .int a :: S => some (pc + 1, L, .int (a &&& b) :: S, G)
    | _ => none
  | .ladd => match S with
    | .long b :: .long a :: S => some (pc + 1, L, .long (a + b) :: S, G)
    | _ => none
  | .lmul => match S with
    | .long b :: .long a :: S => some (pc + 1, L, .long (a * b) :: S, G)
    | _ => none
  | .lcmp => match S with
    | .long b :: .long a :: S => some (pc + 1, L, .int (lg_cmp a b) :: S, G)
    | _ => none
  | .i2l => match S with
    | .int a :: S => some (pc + 1, L, .long a.toInt64 :: S, G)
    | _ => none
  | .dup => match S with
    | .int a :: S => some (pc + 1, L, .int a :: .int a :: S, G)
    | .ref a :: S => some (pc + 1, L, .ref a :: .ref a :: S, G)
    | _ => none
  | .dup2 => match S with
    | .int b :: .ref a :: S => some (pc + 1, L, .int b :: .ref a :: .int b :: .ref a :: S, G)
    | _ => none
  | .goto _ => some (aux, L, S, G)
  | .ifCond c _ => match S with
    | .int a :: S => some (if ma_if c a then aux else pc + 3, L, S, G)
    | _ => none
  | .if_icmp c _ => match S with
    | .int b :: .int a :: S => some (if ma_cmp c a b then aux else pc + 3, L, S, G)
    | _ => none
  | .tableswitch d lo hi offs => match S with
    | .int a :: S => if a.toInt < lo ∨ hi < a.toInt then some (ma_tgt pc d, L, S, G) else match offs[(a.toInt - lo).toNat]? with
      | some o => some (ma_tgt pc o, L, S, G)
      | none => none
    | _ => none
  | .getfield _ => match S with
    | .ref a :: S => match ma_obj G a (aux / 100) with
      | some fs => (fs[aux % 100]?).map fun v => (pc + 3, L, v :: S, G)
      | none => none
    | _ => none
  | .putfield _ => match S with
    | .int v :: .ref a :: S => match ma_obj G a (aux / 100) with
      | some fs => if aux % 100 < fs.length ∧ ma_isI (ma_fty (aux / 100) (aux % 100)) = true then some (pc + 3, L, S, G.set a (.inr (aux / 100, fs.set (aux % 100) (.int v)))) else none
      | none => none
    | .ref v :: .ref a :: S => match ma_obj G a (aux / 100) with
      | some fs => if aux % 100 < fs.length ∧ ma_isR (ma_fty (aux / 100) (aux % 100)) = true then some (pc + 3, L, S, G.set a (.inr (aux / 100, fs.set (aux % 100) (.ref v)))) else none
      | none => none
    | _ => none
  | .iaload => match S with
    | .int i :: .ref a :: S => match ma_scr G a with
      | some q => (ma_ix i q.1).map fun j => (pc + 1, L, .int (q.2 j) :: S, G)
      | none => match ma_ints G a with
        | some q => (ma_ix i q.1).map fun j => (pc + 1, L, .int (q.2 j) :: S, G)
        | none => none
    | _ => none
  | .iastore => match S with
    | .int v :: .int i :: .ref a :: S => match ma_ints G a with
      | some q => (ma_ix i q.1).map fun j => (pc + 1, L, S, G.set a (.inl (0, q.1, .inl (upd q.2 j v))))
      | none => none
    | _ => none
  | .laload => match S with
    | .int i :: .ref a :: S => match ma_longs G a with
      | some q => (ma_ix i q.1).map fun j => (pc + 1, L, .long (q.2 j) :: S, G)
      | none => none
    | _ => none
  | .lastore => match S with
    | .long v :: .int i :: .ref a :: S => match ma_longs G a with
      | some q => (ma_ix i q.1).map fun j => (pc + 1, L, S, G.set a (.inl (1, q.1, .inr (.inl (vp_updL q.2 j v)))))
      | none => none
    | _ => none
  | .aaload => match S with
    | .int i :: .ref a :: S => match ma_refs G a with
      | some q => match ma_ix i q.2.1 with
        | some j => (q.2.2 j).map fun b => (pc + 1, L, .ref b :: S, G)
        | none => none
      | none => none
    | _ => none
  | .aastore => match S with
    | .ref v :: .int i :: .ref a :: S => match ma_refs G a with
      | some q => match ma_ix i q.2.1, ma_tci q.1 with
        | some j, some ci => match ma_obj G v ci with
          | some _ => some (pc + 1, L, S, G.set a (.inl (q.1, q.2.1, .inr (.inr (.inr (.inr (va_up q.2.2 j (some v))))))))
          | none => none
        | _, _ => none
      | none => none
    | _ => none
  | .arraylength => match S with
    | .ref a :: S => (ma_scr G a).map fun q => (pc + 1, L, .int (Int32.ofNat q.1) :: S, G)
    | _ => none
  | .invokespecial _ => if aux = 9000 then match S with
    | .ref _ :: S => if (S.map fun v => v.category).sum ≤ 8 then some (pc + 3, L, S, G) else none
    | _ => none else none
  | .invokestatic _ => if aux = 9001 then match S with
      | .int y :: .int x :: S => if (S.map fun v => v.category).sum ≤ 8 then some (pc + 3, L, .int (if y < x then y else x) :: S, G) else none
      | _ => none
    else if aux = 9002 then match S with
      | .int y :: .int x :: S => if (S.map fun v => v.category).sum ≤ 8 then some (pc + 3, L, .int (if x < y then y else x) :: S, G) else none
      | _ => none
    else none
  | _ => none
/-- one instruction that makes a cell: the stack behind it, the cell, its slots -/
def ma_new (x : Instr) (aux pc : Nat) (S : List Value) (G : ma_G) : Option (Nat × List Value × va_E × Nat) := match x with
  | .new _ => if aux < 8 then some (pc + 3, .ref G.length :: S, .inr (aux, ma_dfl aux), ma_N aux) else none
  | .newarray _ => match S with
    | .int n :: S => if n < 0 then none else if 1000 < n.toNatClampNeg then none else if aux = 0 then some (pc + 2, .ref G.length :: S, .inl (0, n.toNatClampNeg, .inl (fun _ => 0)), n.toNatClampNeg)
      else if aux = 1 then some (pc + 2, .ref G.length :: S, .inl (1, n.toNatClampNeg, .inr (.inl (fun _ => 0))), n.toNatClampNeg) else none
    | _ => none
  | .anewarray _ => match S with
    | .int n :: S => if n < 0 then none else if 1000 < n.toNatClampNeg then none else if 2 ≤ aux ∧ aux ≤ 5 then some (pc + 3, .ref G.length :: S, .inl (aux, n.toNatClampNeg, .inr (.inr (.inr (.inr (fun _ => none))))), n.toNatClampNeg) else none
    | _ => none
  | _ => none
/-- one instruction that returns -/
def ma_ret (ret : Option FieldType) (x : Instr) (S : List Value) : Option (Option Value) := match x with
  | .ireturn => match S, ret with
    | [.int v], some ty => if narrow ty (.int v) = .int v then some (some (.int v)) else none
    | _, _ => none
  | .lreturn => match S, ret with
    | [.long v], some .long => some (some (.long v))
    | _, _ => none
  | .return_ => match S, ret with
    | [], none => some none
    | _, _ => none
  | _ => none
def ma_inv (x : Instr) (aux : Nat) : Option Nat := match x with
  | .invokestatic _ => if aux < 7000 then some aux else none
  | .invokevirtual _ => if aux < 7000 then some aux else none
  | .invokespecial _ => if aux < 7000 then some aux else none
  | _ => none
/-- a handler: its first and last pc, the number of its exception, the pc behind its first instruction (a store), the place stored -/
abbrev ma_H : Type := List (Nat × Nat × Nat × Nat × Nat)
def ma_catch (hs : ma_H) (pc x : Nat) : Option (Nat × Nat) := match hs with
  | [] => none
  | h :: r => if h.1 ≤ pc ∧ pc < h.2.1 then (if h.2.2.1 = x then some (h.2.2.2.1, h.2.2.2.2) else ma_catch r pc x) else ma_catch r pc x
/-- a method: its name, its class, its bytes, its locals, its result, its handlers (as the file has them, and as above), how many arguments, its class's number for a receiver, its code -/
abbrev ma_M : Type := MethodName × String × ByteArray × Nat × Option FieldType × mx_Hs × ma_H × Nat × Option Nat × List (Nat × ma_I)
abbrev ma_M.y (M : ma_M) : MethodName := M.1
abbrev ma_M.own (M : ma_M) : String := M.2.1
abbrev ma_M.cc (M : ma_M) : ByteArray := M.2.2.1
abbrev ma_M.nL (M : ma_M) : Nat := M.2.2.2.1
abbrev ma_M.ret (M : ma_M) : Option FieldType := M.2.2.2.2.1
abbrev ma_M.hs (M : ma_M) : mx_Hs := M.2.2.2.2.2.1
abbrev ma_M.hx (M : ma_M) : ma_H := M.2.2.2.2.2.2.1
abbrev ma_M.na (M : ma_M) : Nat := M.2.2.2.2.2.2.2.1
abbrev ma_M.ci (M : ma_M) : Option Nat := M.2.2.2.2.2.2.2.2.1
abbrev ma_M.cd (M : ma_M) : List (Nat × ma_I) := M.2.2.2.2.2.2.2.2.2
def ma_find (l : List (Nat × ma_I)) (pc : Nat) : Option ma_I := match l with
  | [] => none
  | q :: r => if q.1 = pc then some q.2 else ma_find r pc
def ma_ent (As : List Value) (n : Nat) : ma_L := As.map some ++ List.replicate (n - As.length) none
def ma_add (r : ma_R) (c s : Nat) : ma_R := (r.1, r.2.1, r.2.2.1 + c, r.2.2.2 + s)
/-- the receiver, where there is one, is an object of its class -/
def ma_rcv (M : ma_M) (As : List Value) (G : ma_G) : Prop := match M.ci with
  | none => True
  | some ci => ∃ h As' fs, As = .ref h :: As' ∧ ma_obj G h ci = some fs
/-- what the rest of a method comes to, in at most n instructions of its own; P: what its callees come to -/
def ma_run (prog : Nat → Option ma_M) (P : Nat → List Value → ma_G → ma_R → Prop) (d : Nat) (M : ma_M) : Nat → Nat → ma_L → List Value → ma_G → ma_R → Prop
  | 0, _, _, _, _, _ => False
  | n + 1, pc, L, S, G, r => ∃ x aux, ma_find M.cd pc = some (x, aux) ∧
    ((∃ pc' L' S' G', ma_step x aux pc L S G = some (pc', L', S', G') ∧ ma_run prog P d M n pc' L' S' G' r)
    ∨ (∃ pc' S' e k r', ma_new x aux pc S G = some (pc', S', e, k) ∧ ma_run prog P d M n pc' L S' (G ++ [e]) r' ∧ r = ma_add r' 1 k)
    ∨ (∃ v, ma_ret M.ret x S = some v ∧ r = (.inl v, G, 0, 0))
    ∨ (∃ ix, x = .new ix ∧ 8000 < aux ∧ aux ≤ 8002 ∧ 2 ≤ d ∧ M.hs = [] ∧ (S.map fun v => v.category).sum ≤ 8 ∧ r = (.inr aux, G, 1, 6))
    ∨ (∃ k N As rest o G1 c1 s1, ma_inv x aux = some k ∧ prog k = some N ∧ S = As.reverse ++ rest ∧ As.length = N.na ∧ (rest.map fun v => v.category).sum ≤ 8 ∧ (∀ v ∈ As, v.category = 1) ∧ ma_rcv N As G ∧ P k As G (o, G1, c1, s1) ∧
        match o with
        | .inl v => ∃ r', ma_run prog P d M n (pc + 3) L (v.toList ++ rest) G1 r' ∧ r = ma_add r' c1 s1
        | .inr z => match ma_catch M.hx pc z with
          | some (pc', i) => ∃ r', i < L.length ∧ ma_ok1 L i = true ∧ ma_run prog P d M n pc' (L.set i none) [] G1 r' ∧ r = ma_add r' c1 s1
          | none => M.hs = [] ∧ r = (.inr z, G1, c1, s1)))
/-- what a call of method k comes to, with room for d calls below it -/
def ma_call (prog : Nat → Option ma_M) : Nat → Nat → List Value → ma_G → ma_R → Prop
  | 0, _, _, _, _ => False
  | d + 1, k, As, G, r => ∃ M n, prog k = some M ∧ ma_run prog (ma_call prog d) d M n 0 (ma_ent As M.nL) [] G r
