/-! MS7: making cells, returning, throwing -/
def ms_xn (z : Nat) : String := if z = 8001 then ms_iae else ms_ise
def ms_names : List String := ["java/lang/RuntimeException", "java/lang/Exception"]
def ma_thrc (M : ma_M) (pc ix aux : Nat) : Bool := decide (M.own = RX6) && decide (decode M.cc (pc + 3) = .ok (.dup, 1)) && (match decode M.cc (pc + 4), decode M.cc (pc + 6) with
    | .ok (.ldc si, 2), .ok (.invokespecial ic, 3) => ms_strs.any (fun q => q.1 == si) && ma_in (.methodLink M.own ic (Bundle.initS (ms_xn aux)))
    | _, _ => false) && decide (decode M.cc (pc + 9) = .ok (.athrow, 1)) && ma_in (.classLink M.own ix (ms_xn aux))
def ms_aok (X : String) (a : Cond) : Bool := decide (a = .methodLink "" 0 (Bundle.initS X)) || (ma_in a && !ms_ls a) || decide (a = .laysStatic Bundle.tN "UNASSIGNED_STACK" Bundle.steD) || decide (a = .laysStatic Bundle.tN "SUPPRESSED_SENTINEL" Bundle.listD) || decide (a = .isRef (.static Bundle.tN "UNASSIGNED_STACK" Bundle.steD)) || decide (a = .isRef (.static Bundle.tN "SUPPRESSED_SENTINEL" Bundle.listD))
set_option maxRecDepth 100000 in
theorem ms_atoms_iae : (Bundle.ownAtoms "" 0 ms_iae ms_names).all (ms_aok ms_iae) = true := by decide +kernel
set_option maxRecDepth 100000 in
theorem ms_atoms_ise : (Bundle.ownAtoms "" 0 ms_ise ms_names).all (ms_aok ms_ise) = true := by decide +kernel
theorem ms_atoms_all (z : Nat) : (Bundle.ownAtoms "" 0 (ms_xn z) ms_names).all (ms_aok (ms_xn z)) = true := by
  unfold ms_xn
  split
  · exact ms_atoms_iae
  · exact ms_atoms_ise
theorem ms_atoms {own : String} {ic z : Nat} {args : Array Value} {s : State} {A : Nat → Prop} (hW : ms_W s) (hZ : ms_Z A s s.heap) (hl : Cond.methodLink own ic (Bundle.initS (ms_xn z)) ∈ lw_tbl) : ∀ a ∈ Bundle.ownAtoms own ic (ms_xn z) ms_names, a.before args s = true := by
  intro a ha
  have h1 : a = .methodLink own ic (Bundle.initS (ms_xn z)) ∨ (a ∈ Bundle.ownAtoms "" 0 (ms_xn z) ms_names ∧ a ≠ .methodLink "" 0 (Bundle.initS (ms_xn z))) := by
    by_cases e : a = .methodLink own ic (Bundle.initS (ms_xn z))
    · exact Or.inl e
    · refine Or.inr ⟨?_, ?_⟩
      · simp only [Bundle.ownAtoms, List.mem_append, List.mem_cons, e, false_or] at ha ⊢
        rcases ha with h | h
        · exact Or.inl h
        · exact Or.inr (Or.inr h)
      · rintro rfl
        revert ha
        simp [Bundle.ownAtoms, Bundle.throwableAtoms, Bundle.throwableSAtoms, Bundle.chainSAtoms, Bundle.passSAtoms, ms_names, Bundle.initS, Bundle.tN]
        intro h1 h2
        exact e (by simp [Bundle.initS, h1, h2])
  rcases h1 with rfl | ⟨h1, hne⟩
  · exact hW _ _ hl rfl
  · have h2 := List.all_eq_true.mp (ms_atoms_all z) a h1
    simp only [ms_aok, Bool.or_eq_true, decide_eq_true_eq, Bool.and_eq_true, Bool.not_eq_true', hne, false_or] at h2
    rcases h2 with (((h2 | rfl) | rfl) | rfl) | rfl
    · exact hW _ _ (ma_in_of h2.1) h2.2
    · exact hZ.1.lays
    · exact hZ.2.lays
    · exact hZ.1.isRef
    · exact hZ.2.isRef
/-- a method's end: the world behind it, and what came -/
def ms_out (o : ma_O) (oc : Outcome) (st t : State) : Prop := match o, oc with
  | .inl v, .returned w => w = v ∧ ∀ a, v ≠ some (.ref a)
  | .inr z, .threw x => st.heap.size ≤ x ∧ ∃ cell : Cell, t.heap[x]? = some cell ∧ cell.vm = .none ∧ t.vm.findClass (ms_xn z) = some cell.cls ∧ (∃ k, t.vm.classes[cell.cls]? = some k)
  | _, _ => False
def ms_Qc (D : va_G) (tc : Nat → ClassId) (A : Nat → Prop) (as0 : List Nat) (G0 : ma_G) (o : ma_O) (G' : ma_G) : Array Value → State → Outcome → State → Prop := fun _ st oc t =>
  ∃ xs, ms_out o oc st t ∧ (as0 ++ xs).length = G'.length ∧ ms_wG G' ∧ G'[(0 : Nat)]? = G0[(0 : Nat)]? ∧ va_P D vwCl (ms_ws (as0 ++ xs) tc G') t.heap ∧ va_D A (ms_ws (as0 ++ xs) tc G') ∧ va_F A st t
section MS7
variable {p : Program} {l : Launch} {e : Env} {R : Room} {s : State} {m : MethodId} {args : Array Value} {below : List Frame} {meth : Method} {c : Code} {H : Heap} {locs : List Loc} {cells slots : Nat} {Q : State → Prop}
variable {D : va_G} {tc : Nat → ClassId} {A : Nat → Prop} {M : ma_M} {as0 as : List Nat} {G0 G : ma_G} {pc aux : Nat} {ls : Array Slot} {L : ma_L} {S : List Value}
theorem ms_ret (hC : ms_C p e s m meth c D tc A M as0 G0) {x : Instr} (hat : ma_at M pc x aux) {v : Option Value} (h : ma_ret M.ret x S = some v) (hP : ms_P D tc A s as0 G0 as G H locs) {mc ms : Nat} (hcs : cells ≤ mc) (hss : slots ≤ ms) :
    W p l e R s m args below meth c H locs cells slots (mx_MQ below (ms_Qc D tc A as0 G0 (.inl v) G) args s mc ms A) (F0 m pc ls (S.map (ms_rv as))) := by
  obtain ⟨hx, hb, hml, hex, hr, hlk, hown, hnm, hV, hA, hZ, hX, htr⟩ := hC
  obtain ⟨⟨xs, rfl⟩, h2, h3, h4, h5, h6, h7, h8⟩ := hP
  refine W.widen (k := mc) (n := ms) hcs hss (mx_mono mx_ofMQ ?_)
  have key : ∀ (w : Option Value), (∀ a, w ≠ some (.ref a)) → ∀ t : State, t.heap = H → s.WarmedH t.vm → ms_Qc D tc A as0 G0 (.inl w) G args s (.returned w) t := fun w hw t ht _ => ⟨xs, ⟨rfl, hw⟩, h2, h4, h5, by rw [ht]; exact h6, h7, h8.F ht⟩
  cases x with
  | ireturn =>
    simp only [ma_ret] at h
    split at h
    · rename_i v ty hty
      split at h
      · rename_i hn
        cases h
        exact W.zret hx hb (hr.trans hty) hn (key _ (fun a q => by cases q)) h8.2.2 hat.1
      · cases h
    · cases h
  | lreturn =>
    simp only [ma_ret] at h
    split at h
    · rename_i v hty
      cases h
      exact W.lret hx hb (hr.trans hty) (key _ (fun a q => by cases q)) h8.2.2 hat.1
    · cases h
  | return_ =>
    simp only [ma_ret] at h
    split at h
    · rename_i hty
      cases h
      exact W.vret hx hb (hr.trans hty) (key _ (fun a q => by cases q)) h8.2.2 hat.1
    · cases h
  | _ => cases h
theorem ms_thr (hC : ms_C p e s m meth c D tc A M as0 G0) {ix : Nat} (hat : ma_at M pc (.new ix) aux) (hth : ma_thrc M pc ix aux = true) (hhs : M.hs = []) (hsum : (S.map fun v => v.category).sum ≤ 8) (hP : ms_P D tc A s as0 G0 as G H locs) (hL : ms_L as M.nL ls L)
    {d mc ms : Nat} (hd2 : 2 ≤ d) (hR : R = ms_rm d mc ms) (hcs : cells + 1 ≤ mc) (hss : slots + 6 ≤ ms) :
    W p l e R s m args below meth c H locs cells slots (mx_MQ below (ms_Qc D tc A as0 G0 (.inr aux) G) args s mc ms A) (F0 m pc ls (S.map (ms_rv as))) := by
  subst hR
  obtain ⟨hx, hb, hml, hex, hr, hlk, hown, hnm, hV, hA, hZ, hX, htr⟩ := hC
  obtain ⟨⟨xs, rfl⟩, h2, h3, h4, h5, h6, h7, h8⟩ := hP
  have hW := hV.2.1
  unfold ma_thrc at hth
  simp only [Bool.and_eq_true, decide_eq_true_eq] at hth
  obtain ⟨⟨⟨⟨hown6, hd3⟩, hmid⟩, hd9⟩, hcl⟩ := hth
  split at hmid
  · rename_i si ic hd4 hd6
    simp only [Bool.and_eq_true, List.any_eq_true, beq_iff_eq] at hmid
    obtain ⟨⟨q, hq, hqi⟩, hml6⟩ := hmid
    obtain ⟨a0, ha0⟩ := hV.2.2.2.2 q hq
    have hat0 : ∀ a ∈ Bundle.ownAtoms M.own ic (ms_xn aux) ms_names, a.before args s = true := ms_atoms hW hZ (ma_in_of hml6)
    have hinst : (Cond.instantiable (ms_xn aux) 6).before args s = true := hat0 _ (by simp [Bundle.ownAtoms])
    have hini : (Cond.initialized (ms_xn aux)).before args s = true := by
      unfold ms_xn
      split
      · exact hW _ _ (by decide +kernel) rfl
      · exact hW _ _ (by decide +kernel) rfl
    obtain ⟨cX, kX, hfX, hkX, -⟩ := Cond.instantiable_spec hinst
    refine W.newcK hx hb hown (hW _ _ (ma_in_of hcl) rfl) hinst hini rfl hat.1 hcs hss hfX rfl fun H1 kC hkC e1 z1 o1 => ?_
    cases hkX.symm.trans hkC
    refine lv_dup (pc := pc + 3) hx hb hd3 rfl ?_
    rw [hqi] at ha0
    refine va_ldcS (pc := pc + 4) hx hb hown (by rw [hown6]; exact ha0) hd4 ?_
    intro T hT X
    have hfit : Bundle.fit (ms_xn aux) = true := by
      unfold ms_xn
      split <;> decide +kernel
    have hnew : s.heap.size ≤ H.size := h8.1
    have htab : c.exceptionTable.toList = [] := by
      rw [hhs] at hex
      exact List.map_eq_nil_iff.mp hex
    obtain ⟨U, u1, u2, u3, u4, u5, u6, u7, ce, u8, u9, u10⟩ := mx_ctorThrow X hx htr (own := M.own) (cls := ms_xn aux) (names := ms_names) (ic := ic) hown hfit (by decide +kernel) hat0 h8.2.2 hZ.1 hfX hkX (a := H.size) (by rw [hT]; exact e1) hnew (msg := .ref a0) rfl (g := F0 m (pc + 6) ls (.ref a0 :: .ref H.size :: .ref H.size :: S.map (ms_rv (as0 ++ xs)))) rfl (by rw [hml]; exact hL.2.1) rfl rfl rfl (by rw [hb]; exact hd6) (by rw [hb]; exact hd9)
      (by rw [htab]; intro x hx; cases hx) (by show 2 + 3 < d + 4; omega) (by
        show 2 * 0 + (1 + ((S.map (ms_rv (as0 ++ xs))).map fun v => v.category).sum) + (13 * (2 + 1) + 42) ≤ 110 + 40 * d
        rw [ms_cat_sum]; omega) hlk
    have hHU : ∀ q : Nat, q < H.size → U.heap[q]? = H[q]? := fun q hq => by rw [u7 q (Nat.ne_of_lt hq), hT, o1 q hq]
    refine ⟨U, u1, .threw H.size, u2, u3, ⟨xs, ⟨hnew, ce, u8, u10, ?_, ?_⟩, h2, h4, h5, h6.kept (fun k x hk => hHU x.1 ((h6 k x hk).lt)), h7, ?_, ?_⟩, locs, ⟨u4, State.sameButNew.mono u5 hcs hss⟩, h8.2.2⟩
    · rw [u4.alike.findClass, u9]; exact hfX
    · rw [u9]
      obtain ⟨k', hk', -⟩ := u4.alike.2.2 _ _ hkX
      exact ⟨k', hk'⟩
    · rw [u6, hT, z1]; exact Nat.le_succ_of_le h8.1
    · intro q hq hnA
      rw [hHU q (Nat.lt_of_lt_of_le hq h8.1)]
      exact h8.2.1 q hq hnA
  · cases hmid
end MS7
