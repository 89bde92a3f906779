/-! MS3: what holds throughout a method; words -/
def ms_iae : String := "java/lang/IllegalArgumentException"
def ms_ise : String := "java/lang/IllegalStateException"
def ms_strs : List (Nat × String) := [(210, "outside what the document allows"), (70, "a book has an entry"), (216, "the book is full"), (107, "the dose is struck")]
def ms_ls (w : Cond) : Bool := match w with
  | .laysStatic .. => true
  | _ => false
def ms_W (U : State) : Prop := ∀ (a : Array Value) (w : Cond), w ∈ lw_tbl → ms_ls w = false → w.before a U = true
def ms_tys (tc : Nat → ClassId) : List (ClassId × FieldType) := (List.range 6).map (fun t => (tc t, ma_ty t))
def ms_T (U : State) : Prop := ∀ q ∈ ms_strs, ∃ a, vk_R RX6 q.1 q.2 a U
def ms_V (D : va_G) (tc : Nat → ClassId) (U : State) : Prop := va_K D vwCl (ms_tys tc) U ∧ ms_W U ∧ va_Nc ms_ise ms_iae U ∧ va_Nc ms_iae ms_ise U ∧ ms_T U
def ms_nest (w : Cond) : Bool := match w with
  | .methodLinkNest .. => true
  | _ => false
def ms_str (w : Cond) : Bool := match w with
  | .stringRef .. => true
  | _ => false
def ms_ovr (w : Cond) : Bool := match w with
  | .arrayOver (.object _) => true
  | _ => false
set_option maxRecDepth 100000 in
theorem ms_words : lw_tbl.all (fun w => goodWord w || ms_nest w || ms_str w || ms_ovr w || (w.faceAtom && w.onTables) || ms_ls w) = true := by decide +kernel
theorem ms_W.warm {s U : State} (hW : s.WarmedH U.vm) (h : ms_W s) : ms_W U := by
  intro a w hw hl
  have h1 := List.all_eq_true.mp ms_words w hw
  simp only [Bool.or_eq_true, hl, Bool.and_eq_true] at h1
  have h0 := h #[] w hw hl
  rcases h1 with (((((h1 | h1) | h1) | h1) | h1) | h1)
  · exact word_at hW (good_of_word h1) h0
  · cases w with
    | methodLinkNest c i y t => exact va_Nw.use rfl (va_Nw.warmM hW (va_Nw.of rfl h0))
    | _ => cases h1
  · cases w with
    | stringRef c i t =>
      have h2 := Cond.stringRef_warmed (args := #[]) hW h0
      exact h2
    | _ => cases h1
  · cases w with
    | arrayOver ty =>
      cases ty with
      | object C => exact va_AO.use (va_AO.moved hW.alike (va_AO.of h0))
      | _ => cases h1
    | _ => cases h1
  · exact va_tabs h1.2 (rfl : (s.setVm U.vm).vm = U.vm) (Cond.faceAtom_setVm hW.alike w h1.1 h0)
  · cases h1
theorem ms_V.warm {D : va_G} {tc : Nat → ClassId} {s U : State} (hW : s.WarmedH U.vm) (h : ms_V D tc s) : ms_V D tc U := by
  obtain ⟨h1, h2, h3, h4, h5⟩ := h
  exact ⟨va_K.moved hW.alike h1, h2.warm hW, h3.moved hW.alike, h4.moved hW.alike, fun q hq => by
    obtain ⟨a, ha⟩ := h5 q hq
    exact ⟨a, vk_R.warm hW ha⟩⟩
/-- a static that a Throwable reads: a reference or null, in a cell outside A -/
def ms_z (n d : String) (A : Nat → Prop) (U : State) (H : Heap) : Prop := ∃ (c : ClassId) (k : Class) (i : Nat) (f : Field) (a : Nat) (cell : Cell) (v : Value), U.vm.findClass "java/lang/Throwable" = some c ∧ U.fieldFound? "java/lang/Throwable" n d = some (c, k, i, f) ∧ f.isStatic = true ∧ k.statics = some a ∧ H[a]? = some cell ∧ cell.vm.isStatics = true ∧ cell.cls = c ∧ f.slot < cell.slots.size ∧ k.staticTypes[f.slot]? = some f.type ∧ cell.slots[f.slot]? = some v ∧ v.isRef = true ∧ ¬ A a
theorem ms_z.moved {n d : String} {A : Nat → Prop} {u U : State} {H : Heap} (hvm : u.vm.Alike U.vm) (h : ms_z n d A u H) : ms_z n d A U H := by
  obtain ⟨c, k, i, f, a, cell, v, h1, h2, h3, h4, h5, h6, h7, h8, h9, h10⟩ := h
  obtain ⟨k', hi', he⟩ := State.fieldFound?_setVm hvm h2
  exact ⟨c, k', i, f, a, cell, v, by rw [hvm.findClass]; exact h1, hi', h3, by rw [he]; exact h4, h5, h6, h7, h8, by rw [he]; exact h9, h10⟩
theorem ms_z.kept {n d : String} {A : Nat → Prop} {U : State} {H H1 : Heap} (h : ms_z n d A U H) (hq : ∀ a : Nat, a < H.size → ¬ A a → H1[a]? = H[a]?) : ms_z n d A U H1 := by
  obtain ⟨c, k, i, f, a, cell, v, h1, h2, h3, h4, h5, h6, h7, h8, h9, h10, h11, h12⟩ := h
  exact ⟨c, k, i, f, a, cell, v, h1, h2, h3, h4, by rw [hq a (Array.getElem?_eq_some_iff.mp h5).1 h12]; exact h5, h6, h7, h8, h9, h10, h11, h12⟩
theorem ms_z.narrow {n d : String} {A B : Nat → Prop} {U : State} {H : Heap} (h : ms_z n d A U H) (hAB : ∀ q, q < H.size → B q → A q) : ms_z n d B U H := by
  obtain ⟨c, k, i, f, a, cell, v, h1, h2, h3, h4, h5, h6, h7, h8, h9, h10, h11, h12⟩ := h
  exact ⟨c, k, i, f, a, cell, v, h1, h2, h3, h4, h5, h6, h7, h8, h9, h10, h11, fun z => h12 (hAB a (Array.getElem?_eq_some_iff.mp h5).1 z)⟩
theorem ms_z.lays {n d : String} {A : Nat → Prop} {U : State} {ar : Array Value} (h : ms_z n d A U U.heap) : (Cond.laysStatic "java/lang/Throwable" n d).before ar U = true := by
  obtain ⟨c, k, i, f, a, cell, v, h1, h2, h3, h4, h5, h6, h7, h8, h9, h10, h11, h12⟩ := h
  simp [Cond.before, Cond.holds, Cond.value, h1, h2, h3, h4, h5, h6, h7, h8, h9]
theorem ms_z.isRef {n d : String} {A : Nat → Prop} {U : State} {ar : Array Value} (h : ms_z n d A U U.heap) : (Cond.isRef (.static "java/lang/Throwable" n d)).before ar U = true := by
  obtain ⟨c, k, i, f, a, cell, v, h1, h2, h3, h4, h5, h6, h7, h8, h9, h10, h11, h12⟩ := h
  have he : (Term.static "java/lang/Throwable" n d).eval ar U none [] U = some v := by
    simp [Term.eval, State.fieldNamed?, h2, h3, h4, h5, h6, h10]
  simp only [Cond.before, Cond.holds, Cond.value, he]
  cases v <;> simp [Value.isRef] at h11 ⊢
def ms_Z (A : Nat → Prop) (U : State) (H : Heap) : Prop := ms_z "UNASSIGNED_STACK" "[Ljava/lang/StackTraceElement;" A U H ∧ ms_z "SUPPRESSED_SENTINEL" "Ljava/util/List;" A U H
/-- the script -/
def ms_X (as : List Nat) (G : ma_G) (A : Nat → Prop) (U : State) (H : Heap) : Prop := ∃ (n : Nat) (f : Nat → Int32), G[(0 : Nat)]? = some (.inl (9, n, .inl f)) ∧ va_X (as.getD 0 0) n f U H ∧ as.getD 0 0 < H.size ∧ ¬ A (as.getD 0 0)
def ms_rm (d mc ms : Nat) : Room := { frames := d + 4, cells := mc, slots := ms, locals := 110 + 40 * d }
/-- what holds throughout a method's body -/
def ms_C (p : Program) (e : Env) (s : State) (m : MethodId) (meth : Method) (c : Code) (D : va_G) (tc : Nat → ClassId) (A : Nat → Prop) (M : ma_M) (as0 : List Nat) (G0 : ma_G) : Prop :=
  p.tables.exec = Jvm.exec ∧ c.code = M.cc ∧ c.maxLocals = M.nL ∧ c.exceptionTable.toList.map (fun h => (h.startPc, h.endPc, h.handlerPc, h.catchType)) = M.hs ∧ meth.sig.returnType = M.ret ∧ meth.locks = false ∧
  s.vm.findClass M.own = some m.cls ∧ meth.name = M.y.name ∧ ms_V D tc s ∧ (∀ q : Nat, s.heap.size ≤ q → A q) ∧ ms_Z A s s.heap ∧ ms_X as0 G0 A s s.heap ∧ e.platform.stackTraces = false
/-- a point of the body -/
def ms_P (D : va_G) (tc : Nat → ClassId) (A : Nat → Prop) (s : State) (as0 : List Nat) (G0 : ma_G) (as : List Nat) (G : ma_G) (H : Heap) (locs : List Loc) : Prop :=
  (∃ xs, as = as0 ++ xs) ∧ as.length = G.length ∧ 0 < as0.length ∧ ms_wG G ∧ G[(0 : Nat)]? = G0[(0 : Nat)]? ∧ va_P D vwCl (ms_ws as tc G) H ∧ va_D A (ms_ws as tc G) ∧ va_S A s.heap H locs
/-- the static facts of an instruction -/
def ma_len (x : Instr) (aux : Nat) : Nat := match x with
  | .iconst _ => 1
  | .bipush _ => 2
  | .sipush _ => 3
  | .lconst _ => 1
  | .ldc _ => 2
  | .ldc2_w _ => 3
  | .iload _ => 2
  | .iload_n _ => 1
  | .lload _ => 2
  | .lload_n _ => 1
  | .aload _ => 2
  | .aload_n _ => 1
  | .istore _ => 2
  | .istore_n _ => 1
  | .astore _ => 2
  | .astore_n _ => 1
  | .lstore _ => 2
  | .lstore_n _ => 1
  | .iinc _ _ => 3
  | .goto _ => 3
  | .ifCond _ _ => 3
  | .if_icmp _ _ => 3
  | .tableswitch _ _ _ _ => aux
  | .getfield _ => 3
  | .putfield _ => 3
  | .new _ => 3
  | .newarray _ => 2
  | .anewarray _ => 3
  | .invokespecial _ => 3
  | .invokestatic _ => 3
  | .invokevirtual _ => 3
  | _ => 1
def ma_in (w : Cond) : Bool := decide (w ∈ lw_tbl)
def ma_chk (M : ma_M) (pc : Nat) (x : Instr) (aux : Nat) : Bool := match x with
  | .goto o => decide ((pc : Int) + o = (aux : Int))
  | .ifCond _ o => decide ((pc : Int) + o = (aux : Int))
  | .if_icmp _ o => decide ((pc : Int) + o = (aux : Int))
  | .tableswitch d _ _ offs => decide (0 ≤ (pc : Int) + d) && offs.toList.all (fun o => decide (0 ≤ (pc : Int) + o))
  | .ldc ix => ma_in (.constant M.own ix (nI aux))
  | .ldc2_w ix => ma_in (.constantLong M.own ix (lN aux))
  | .getfield ix => match vwCl[aux / 100]? with
    | some q => decide (aux % 100 < q.2.2) && ma_in (.fieldLink M.own ix (q.2.1 (aux % 100)).1 (q.2.1 (aux % 100)).2.1 (q.2.1 (aux % 100)).2.2.1)
    | none => false
  | .putfield ix => match vwCl[aux / 100]? with
    | some q => decide (aux % 100 < q.2.2) && ma_in (.fieldLink M.own ix (q.2.1 (aux % 100)).1 (q.2.1 (aux % 100)).2.1 (q.2.1 (aux % 100)).2.2.1) &&
      (!(q.2.1 (aux % 100)).2.2.2 || (decide (M.y.name = "<init>") && decide (M.own = q.1) && decide ((q.2.1 (aux % 100)).1 = q.1)))
    | none => false
  | .new ix => if aux < 8 then match vwCl[aux]? with
      | some q => ma_in (.classLink M.own ix q.1) && ma_in (.instantiable q.1 q.2.2) && ma_in (.initialized q.1)
      | none => false
    else true
  | .newarray t => decide (newarray.typeOf t = ma_ty aux) && ma_in (.arrayClass (ma_ty aux))
  | .anewarray ix => match ma_ty aux with
    | .object C => ma_in (.classLink M.own ix C) && ma_in (.arrayOver (.object C))
    | _ => false
  | .invokespecial ix => if aux = 9000 then ma_in (.methodLink M.own ix objectInit) else true
  | .invokestatic ix => if aux = 9001 then ma_in (.methodLink M.own ix Lib.Math.min.name) else if aux = 9002 then ma_in (.methodLink M.own ix Lib.Math.max.name) else true
  | _ => true
theorem ma_in_of {w : Cond} (h : ma_in w = true) : w ∈ lw_tbl := of_decide_eq_true h
/-- the instruction at pc is x, and its links stand in the tables -/
def ma_at (M : ma_M) (pc : Nat) (x : Instr) (aux : Nat) : Prop := decode M.cc pc = .ok (x, ma_len x aux) ∧ ma_chk M pc x aux = true
