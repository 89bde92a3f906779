/-! MS10: calls -/
def ma_cchk (prog : Nat → Option ma_M) (M : ma_M) (pc : Nat) (x : Instr) (aux : Nat) : Bool := match x with
  | .new ix => if aux < 8 then true else ma_thrc M pc ix aux
  | .invokestatic ix => if aux < 7000 then match prog aux with
      | some N => (ma_in (.methodLink M.own ix N.y) || ma_in (.methodLinkNest M.own ix N.y RX6)) && ma_in (.static N.y) && decide (N.ci = none)
      | none => false
    else true
  | .invokevirtual ix => if aux < 7000 then match prog aux with
      | some N => ma_in (.methodLink M.own ix N.y) && ma_in (.instanceMethod N.y) && ma_in (.selects N.y.cls N.y N.y) && N.ci.isSome
      | none => false
    else true
  | .invokespecial ix => if aux < 7000 then match prog aux with
      | some N => ma_in (.methodLink M.own ix N.y) && ma_in (.instanceMethod N.y) && decide (N.y.name = "<init>") && decide (N.ret = none) && N.hs.isEmpty && N.ci.isSome
      | none => false
    else true
  | _ => true
/-- a method's instructions are as its table says -/
def ma_goodI (prog : Nat → Option ma_M) (M : ma_M) : Prop := (∀ pc x aux, ma_find M.cd pc = some (x, aux) → ma_at M pc x aux ∧ ma_cchk prog M pc x aux = true) ∧ M.hs.length = M.hx.length ∧ (∀ q ∈ M.hs.zip M.hx, ma_hc M q = true) ∧ M.own = M.y.cls
/-- and it can be called -/
def ma_goodM (M : ma_M) : Prop := plainName M.y.cls = true ∧ mx_cw M.y M.cc M.nL M.ret M.hs ∈ lw_tbl ∧ M.nL ≤ 21 ∧ M.na ≤ M.nL ∧ (M.y.cls ≠ "java/lang/invoke/MethodHandle" ∧ M.y.cls ≠ "java/lang/invoke/VarHandle") ∧ Cond.initialized M.y.cls ∈ lw_tbl ∧
  (parseMethodDescriptor M.y.desc).map (fun d => d.parameters.length) = some (match M.ci with | none => M.na | some _ => M.na - 1) ∧ (∀ ci, M.ci = some ci → ∃ q : vw_C, vwCl[ci]? = some q ∧ q.1 = M.y.cls)
theorem mx_cw_ls (y : MethodName) (cc : ByteArray) (nL : Nat) (ret : Option FieldType) (hs : mx_Hs) : ms_ls (mx_cw y cc nL ret hs) = false := by cases hs <;> rfl
/-- a call's start -/
def ms_Pc (D : va_G) (tc : Nat → ClassId) (as : List Nat) (G : ma_G) (sz : Nat) (As : List Value) : Array Value → State → Prop := fun v U =>
  v = (As.map (ms_rv as)).toArray ∧ U.heap.size = sz ∧ ms_V D tc U ∧ as.length = G.length ∧ 0 < as.length ∧ ms_wG G ∧ ms_wS G.length As ∧ (∀ v ∈ As, v.category = 1) ∧ va_P D vwCl (ms_ws as tc G) U.heap ∧ va_D (fun _ => True) (ms_ws as tc G) ∧ ms_Z (va_A (ms_ws as tc G) sz) U U.heap ∧ ms_X as G (va_A (ms_ws as tc G) sz) U U.heap
theorem ms_Pc_blind {D : va_G} {tc : Nat → ClassId} {as : List Nat} {G : ma_G} {sz : Nat} {As : List Value} : FrameBlind (ms_Pc D tc as G sz As) := by
  intro a U g mk h
  obtain ⟨h1, h2, h3, h4, h5, h6, h7, h8, h9, h10, h11, ⟨n, f, hx0, hxa, hxl, hxA⟩⟩ := h
  have hal : U.vm.Alike (U.calling g mk a).vm := Vm.Alike.refl U.vm
  refine ⟨h1, h2, h3.warm (U := U.calling g mk a) (State.WarmedH.refl U), h4, h5, h6, h7, h8, h9, h10, ⟨h11.1.moved hal, h11.2.moved hal⟩, n, f, hx0, hxa.moved hal, hxl, hxA⟩
section MS10
variable {p : Program} {l : Launch} {e : Env} {R : Room} {s : State} {m : MethodId} {args : Array Value} {below : List Frame} {meth : Method} {c : Code} {H : Heap} {locs : List Loc} {cells slots : Nat} {Q : State → Prop}
variable {D : va_G} {tc : Nat → ClassId} {A : Nat → Prop} {M N : ma_M} {as0 as : List Nat} {G0 G : ma_G} {pc aux : Nat} {ls : Array Slot} {L : ma_L} {S : List Value} {prog : Nat → Option ma_M}
theorem ms_A_sub (hC : ms_C p e s m meth c D tc A M as0 G0) (hP : ms_P D tc A s as0 G0 as G H locs) : ∀ q, va_A (ms_ws as tc G) H.size q → A q := by
  obtain ⟨-, -, -, -, -, -, -, -, -, hA, -⟩ := hC
  obtain ⟨-, -, -, -, -, -, h7, h8⟩ := hP
  intro q h
  rcases h with ⟨k, e, h⟩ | h
  · exact h7.2 k _ h
  · exact hA q (Nat.le_trans h8.1 h)
/-- the callee's start, out of the caller's point -/
theorem ms_Pc_of (hC : ms_C p e s m meth c D tc A M as0 G0) (hP : ms_P D tc A s as0 G0 as G H locs) {As : List Value} (hwA : ms_wS G.length As) (hcat : ∀ v ∈ As, v.category = 1) : ∀ U : State, U.heap = H → s.WarmedH U.vm → ms_Pc D tc as G H.size As (As.map (ms_rv as)).toArray U := by
  intro U hU hWU
  have hsub := ms_A_sub hC hP
  obtain ⟨hx, hb, hml, hex, hr, hlk, hown, hnm, hV, hA, hZ, ⟨n, f, hx0, hxa, hxl, hxA⟩, htr⟩ := hC
  obtain ⟨⟨xs, rfl⟩, h2, h3, h4, h5, h6, h7, h8⟩ := hP
  subst hU
  have hk : ∀ a : Nat, a < s.heap.size → ¬ A a → U.heap[a]? = s.heap[a]? := h8.2.1
  have e0 : (as0 ++ xs).getD 0 0 = as0.getD 0 0 := by simp [List.getD_eq_getElem?_getD, List.getElem?_append_left h3]
  refine ⟨rfl, rfl, hV.warm hWU, h2, by rw [List.length_append]; omega, h4, hwA, hcat, h6, h7.weaken (fun _ _ _ _ => trivial), ?_, n, f, by rw [h5]; exact hx0, ?_, ?_, ?_⟩
  · exact ⟨((hZ.1.kept hk).moved hWU.alike).narrow (fun q _ h => hsub q h), ((hZ.2.kept hk).moved hWU.alike).narrow (fun q _ h => hsub q h)⟩
  · rw [e0]; exact (hxa.kept (hk _ hxl hxA)).moved hWU.alike
  · rw [e0]; exact Nat.lt_of_lt_of_le hxl h8.1
  · rw [e0]; exact fun q => hxA (hsub _ q)
/-- the caller's point behind the call -/
theorem ms_P_back (hC : ms_C p e s m meth c D tc A M as0 G0) (hP : ms_P D tc A s as0 G0 as G H locs) {st t : State} {o : ma_O} {oc : Outcome} {G1 : ma_G} {a : Array Value} {L1 : List Loc} (hst : st.heap = H) (hq : ms_Qc D tc (va_A (ms_ws as tc G) H.size) as G o G1 a st oc t) (hL1 : ∀ q ∈ L1, va_A (ms_ws as tc G) H.size q.base) :
    ∃ xs, ms_P D tc A s as0 G0 (as ++ xs) G1 t.heap (locs ++ L1) ∧ ms_out o oc st t ∧ G.length ≤ G1.length := by
  have hsub := ms_A_sub hC hP
  obtain ⟨xs, q1, q2, q3, q4, q5, q6, q7⟩ := hq
  obtain ⟨⟨ys, rfl⟩, h2, h3, h4, h5, h6, h7, h8⟩ := hP
  refine ⟨xs, ⟨⟨ys ++ xs, by rw [List.append_assoc]⟩, q2, h3, q3, q4.trans h5, q5, q6.weaken (fun _ _ _ h => hsub _ h), ?_, ?_, ?_⟩, q1, ?_⟩
  · have h9 := q7.1
    rw [hst] at h9
    exact Nat.le_trans h8.1 h9
  · intro q hq hnA
    rw [q7.2 q (by rw [hst]; exact Nat.lt_of_lt_of_le hq h8.1) (fun h => hnA (hsub q h)), hst]
    exact h8.2.1 q hq hnA
  · intro x hx
    rcases List.mem_append.mp hx with hx | hx
    · exact h8.2.2 x hx
    · exact hsub _ (hL1 x hx)
  · rw [← q2, ← h2, List.length_append (as := as0 ++ ys)]; omega
/-- the call itself -/
theorem ms_run (hC : ms_C p e s m meth c D tc A M as0 G0) {x : Instr} {k : Nat} (hat : ma_at M pc x aux) (hcc : ma_cchk prog M pc x aux = true) (hinv : ma_inv x aux = some k) (hN : prog k = some N) (hg : ma_goodM N) (hP : ms_P D tc A s as0 G0 as G H locs) (hL : ms_L as M.nL ls L)
    {As rest : List Value} (hS : S = As.reverse ++ rest) (hna : As.length = N.na) (hsum : (rest.map fun v => v.category).sum ≤ 8) (hcat : ∀ v ∈ As, v.category = 1) (hrcv : ma_rcv N As G) (hwS : ms_wS G.length S)
    {d c1 s1 mc ms : Nat} {o : ma_O} {G1 : ma_G} (hM : mx_Met l N.y (mx_cw N.y N.cc N.nL N.ret N.hs) (ms_rm d c1 s1) (ms_Pc D tc as G H.size As) (ms_Qc D tc (va_A (ms_ws as tc G) H.size) as G o G1) c1 s1 (va_A (ms_ws as tc G) H.size))
    (hR : R = ms_rm (d + 1) mc ms) (hcs : cells + c1 ≤ mc) (hss : slots + s1 ≤ ms) :
    mx_Run p l e R s m args below meth c H locs cells slots c1 s1 (F0 m pc ls (S.map (ms_rv as))) (rest.map (ms_rv as)) (ms_Qc D tc (va_A (ms_ws as tc G) H.size) as G o G1 (As.map (ms_rv as)).toArray) (va_A (ms_ws as tc G) H.size) := by
  subst hR
  subst hS
  have hwA : ms_wS G.length As := fun v hv => hwS v (List.mem_append_left _ (List.mem_reverse.mpr hv))
  have hPc := ms_Pc_of hC hP hwA hcat
  obtain ⟨hx, hb, hml, hex, hr, hlk, hown, hnm, hV, hA, hZ, hX, htr⟩ := id hC
  obtain ⟨g1, g2, g3, g4, g5, g6, g7, g8⟩ := hg
  have hW := hV.2.1
  have hcw : (mx_cw N.y N.cc N.nL N.ret N.hs).before args s = true := hW _ _ g2 (mx_cw_ls _ _ _ _ _)
  have hini : (Cond.initialized N.y.cls).before args s = true := hW _ _ g6 rfl
  have hst : ∀ As rest : List Value, (As.reverse ++ rest).map (ms_rv as) = (As.map (ms_rv as)).reverse ++ rest.map (ms_rv as) := fun As rest => by rw [List.map_append, List.map_reverse]
  have hsum' : 2 * 0 + ((rest.map (ms_rv as)).map fun v => v.category).sum ≤ 8 := by rw [ms_cat_sum]; omega
  cases x with
  | invokestatic ix =>
    simp only [ma_inv] at hinv
    split at hinv
    · rename_i h7
      cases hinv
      simp only [ma_cchk, if_pos h7, hN, Bool.and_eq_true, Bool.or_eq_true, decide_eq_true_eq] at hcc
      obtain ⟨⟨hlk1, hs1⟩, hci⟩ := hcc
      rw [hci] at g7
      rcases hlk1 with hlk1 | hlk1
      · exact mx_runS hx hb hml hown hM rfl rfl (by show d + 4 + 1 ≤ d + 1 + 4; omega) (by show 8 + (N.nL + 11) + (110 + 40 * d) ≤ 110 + 40 * (d + 1); omega) hcw hini (hW _ _ (ma_in_of hlk1) rfl) (hW _ _ (ma_in_of hs1) rfl) g5 ms_Pc_blind hPc rfl (by rw [g7, List.length_map, hna]) hL.2.1 (hst As rest) hsum' hat.1 ⟨hcs, hss⟩
      · exact mx_runSN hx hb hml hown hM rfl rfl (by show d + 4 + 1 ≤ d + 1 + 4; omega) (by show 8 + (N.nL + 11) + (110 + 40 * d) ≤ 110 + 40 * (d + 1); omega) hcw hini (hW _ _ (ma_in_of hlk1) rfl) (hW _ _ (ma_in_of hs1) rfl) g5 ms_Pc_blind hPc rfl (by rw [g7, List.length_map, hna]) hL.2.1 (hst As rest) hsum' hat.1 ⟨hcs, hss⟩
    · cases hinv
  | invokevirtual ix =>
    simp only [ma_inv] at hinv
    split at hinv
    · rename_i h7
      cases hinv
      simp only [ma_cchk, if_pos h7, hN, Bool.and_eq_true] at hcc
      obtain ⟨⟨⟨hlk1, hs1⟩, hse⟩, hci⟩ := hcc
      obtain ⟨ci, hci⟩ := Option.isSome_iff_exists.mp hci
      rw [ma_rcv, hci] at hrcv
      obtain ⟨h, As', fs, rfl, ho⟩ := hrcv
      rw [hci] at g7
      obtain ⟨q, hq, hqn⟩ := g8 ci hci
      have hob := ma_obj_eq ho
      obtain ⟨kk, rfl⟩ := ms_ne0 hX hP hob (fun n f z => by cases z)
      have hrv := va_recv hV.1 hP.2.2.2.2.2.1 hq (ms_ws_at hob)
      rw [hqn] at hrv
      exact mx_runV (As := As'.map (ms_rv as)) (b := as.getD (kk + 1) 0) hx hb hml hown hM rfl rfl (by show d + 4 + 1 ≤ d + 1 + 4; omega) (by show 8 + (N.nL + 11) + (110 + 40 * d) ≤ 110 + 40 * (d + 1); omega) hcw hini (hW _ _ (ma_in_of hlk1) rfl) (hW _ _ (ma_in_of hs1) rfl) (hW _ _ (ma_in_of hse) rfl) g5 ms_Pc_blind hPc hrv rfl (by rw [g7, List.length_map, ← hna]; rfl) hL.2.1 (by
        show ((Value.ref (kk + 1) :: As').reverse ++ rest).map (ms_rv as) = _
        rw [hst, List.map_cons, List.reverse_cons, List.append_assoc]
        rfl) hsum' hat.1 ⟨hcs, hss⟩
    · cases hinv
  | invokespecial ix =>
    simp only [ma_inv] at hinv
    split at hinv
    · rename_i h7
      cases hinv
      simp only [ma_cchk, if_pos h7, hN, Bool.and_eq_true, decide_eq_true_eq, List.isEmpty_iff] at hcc
      obtain ⟨⟨⟨⟨⟨hlk1, hs1⟩, hnm1⟩, hrt⟩, hhs⟩, hci⟩ := hcc
      obtain ⟨ci, hci⟩ := Option.isSome_iff_exists.mp hci
      rw [ma_rcv, hci] at hrcv
      obtain ⟨h, As', fs, rfl, ho⟩ := hrcv
      rw [hci] at g7
      rw [hrt, hhs] at hM hcw
      exact mx_runI (As := As'.map (ms_rv as)) (b := as.getD h 0) hx hb hml hown hM rfl rfl (by show d + 4 + 1 ≤ d + 1 + 4; omega) (by show 8 + (N.nL + 11) + (110 + 40 * d) ≤ 110 + 40 * (d + 1); omega) hcw hini (hW _ _ (ma_in_of hlk1) rfl) (hW _ _ (ma_in_of hs1) rfl) hnm1 g5 ms_Pc_blind hPc rfl (by rw [g7, List.length_map, ← hna]; rfl) hL.2.1 (by
        show ((Value.ref h :: As').reverse ++ rest).map (ms_rv as) = _
        rw [hst, List.map_cons, List.reverse_cons, List.append_assoc]
        rfl) hsum' hat.1 ⟨hcs, hss⟩
    · cases hinv
  | _ => cases hinv
end MS10
