/-! MS9: an exception that a caller catches: the search resolves the clause's class if need be -/
def ma_hc (M : ma_M) (q : (Nat × Nat × Nat × Nat) × (Nat × Nat × Nat × Nat × Nat)) : Bool :=
  decide (q.1.1 = q.2.1) && decide (q.1.2.1 = q.2.2.1) && decide (q.1.2.2.2 ≠ 0) && (decide (q.2.2.2.1 = 8001) || decide (q.2.2.2.1 = 8002)) && ma_in (.classLink M.own q.1.2.2.2 (ms_xn q.2.2.2.1)) &&
  (match decode M.cc q.1.2.2.1 with
    | .ok (.astore_n n, 1) => decide ((n : Nat) = q.2.2.2.2.2) && decide (q.2.2.2.2.1 = q.1.2.2.1 + 1)
    | .ok (.astore n, 2) => decide (n = q.2.2.2.2.2) && decide (q.2.2.2.2.1 = q.1.2.2.1 + 2)
    | _ => false)
section MS9
variable {e : Env} {s U : State} {f : JFrame} {a : Addr}
theorem mx_go_cold {x : ExceptionTableEntry} {t : List ExceptionTableEntry} {c : ClassId} {vm' : Vm} (hx : covers x f.pc = true) (h0 : x.catchType ≠ 0)
    (hg : (Jvm.resolveClass f.method.cls x.catchType).Gives e.toSetting U.vm (.ok c) vm') (hr : vm'.classReady f.method.cls x.catchType c) (hsz : vm'.classes.size ≤ U.vm.classes.size)
    {Q : Handler → Pre} {E : CtlPost} {d : Bool} {acts : List Action} :
    wp (findHandler.go f a (x :: t)) Q E e d acts U ↔ wp (findHandler.go f a (x :: t)) Q E e d acts (U.setVm vm') := by
  obtain ⟨ha, ht⟩ := hg.op (op := VmOp.resolveClass f.method.cls x.catchType) rfl
  simp only [covers] at hx
  obtain ⟨k, hkd, hres⟩ := hr
  simp [findHandler.go, hx, h0, ha, ht, hsz, resolveClass_memo e hkd hres, VmOp.dirties, VmOp.acts, State.setVm_twice]
/-- the search among the clauses: by what the abstract machine finds -/
theorem mx_go {M : ma_M} {own : ClassId} {z : Nat} {cell : Cell} {args : Array Value} (hW : ms_W s) (hN1 : va_Nc ms_ise ms_iae s) (hN2 : va_Nc ms_iae ms_ise s) (hpl : e.platform.magicAccessors = ({} : Platform).magicAccessors) (hown : s.vm.findClass M.own = some f.method.cls) (hz : z = 8001 ∨ z = 8002)
    (hobj : ∀ k, cell.vm ≠ .statics k) (hcls : s.vm.findClass (ms_xn z) = some cell.cls) :
    ∀ (hs : mx_Hs) (hx : ma_H) (tab : List ExceptionTableEntry), tab.map (fun h => (h.startPc, h.endPc, h.handlerPc, h.catchType)) = hs → hs.length = hx.length → (∀ q ∈ hs.zip hx, ma_hc M q = true) →
    ∀ U : State, s.WarmedH U.vm → U.heap[a]? = some cell → ∀ pc' i, ma_catch hx f.pc z = some (pc', i) → ∃ vm' hp, s.WarmedH vm' ∧ ((∃ n : Fin 4, decode M.cc hp = .ok (.astore_n n, 1) ∧ (n : Nat) = i ∧ pc' = hp + 1) ∨ (decode M.cc hp = .ok (.astore i, 2) ∧ pc' = hp + 2)) ∧
      ∀ (Q : Handler → Pre) (E : CtlPost) (d : Bool) (acts : List Action), wp (findHandler.go f a tab) Q E e d acts U ↔ Q (.found hp) d acts (U.setVm vm') := by
  intro hs
  induction hs with
  | nil =>
    intro hx tab ht hl hq U hWU hcell pc' i hc
    cases hx with
    | nil => cases hc
    | cons h r => cases hl
  | cons y ys ih =>
    intro hx tab ht hl hq U hWU hcell pc' i hc
    cases hx with
    | nil => cases hl
    | cons h r =>
      cases tab with
      | nil => cases ht
      | cons x t =>
        simp only [List.map_cons, List.cons.injEq] at ht
        obtain ⟨hxy, ht⟩ := ht
        have hck := hq (y, h) (by simp)
        have hq' : ∀ q ∈ ys.zip r, ma_hc M q = true := fun q hm => hq q (by rw [List.zip_cons_cons]; exact List.mem_cons_of_mem _ hm)
        have hl' : ys.length = r.length := by simpa using hl
        subst hxy
        simp only [ma_hc, Bool.and_eq_true, decide_eq_true_eq, Bool.or_eq_true] at hck
        obtain ⟨⟨⟨⟨⟨h1, h2⟩, h3⟩, h4⟩, h5⟩, h6⟩ := hck
        simp only [ma_catch] at hc
        by_cases hcov : h.1 ≤ f.pc ∧ f.pc < h.2.1
        · rw [if_pos hcov] at hc
          have hcv : covers x f.pc = true := by simp only [covers, Bool.and_eq_true, decide_eq_true_eq]; rw [h1, h2]; exact hcov
          obtain ⟨cc, hcc, hcl⟩ := Cond.classLink_spec (args := #[]) (first := s) (o := none) (idx := []) hown (hW #[] _ (ma_in_of h5) rfl) e.platform hpl
          obtain ⟨dk, _, _, kt, hd, _, _, _, _, hkt, _, hopen⟩ := hcl.here
          have hcl₀ := hWU.classLinks hcl
          have hW' : s.WarmedH (U.vm.noted f.method.cls x.catchType (.cls cc)) := hWU.noted hd hopen (State.rightAt_cls hcl)
          obtain ⟨kt', hkt', -⟩ := hW'.alike.2.2 _ _ hkt
          have hks : ∃ k, (U.vm.noted f.method.cls x.catchType (.cls cc)).classes[cell.cls]? = some k := by
            have : (U.vm.noted f.method.cls x.catchType (.cls cc)).findClass (ms_xn z) = some cell.cls := by rw [hW'.alike.findClass]; exact hcls
            rcases hz with rfl | rfl
            · obtain ⟨c1, k1, q1, q2, -⟩ := Cond.instantiable_spec (args := #[]) (first := s) (o := none) (idx := []) (hW #[] (.instantiable ms_iae 6) (by decide +kernel) rfl)
              cases q1.symm.trans hcls
              obtain ⟨k', hk', -⟩ := hW'.alike.2.2 _ _ q2
              exact ⟨k', hk'⟩
            · obtain ⟨c1, k1, q1, q2, -⟩ := Cond.instantiable_spec (args := #[]) (first := s) (o := none) (idx := []) (hW #[] (.instantiable ms_ise 6) (by decide +kernel) rfl)
              cases q1.symm.trans hcls
              obtain ⟨k', hk', -⟩ := hW'.alike.2.2 _ _ q2
              exact ⟨k', hk'⟩
          have step : ∀ (Q : Handler → Pre) (E : CtlPost) (d : Bool) (acts : List Action), wp (findHandler.go f a (x :: t)) Q E e d acts U ↔
              if (U.setVm (U.vm.noted f.method.cls x.catchType (.cls cc))).vm.assignable cell.cls cc = true then Q (.found x.handlerPc) d acts (U.setVm (U.vm.noted f.method.cls x.catchType (.cls cc))) else wp (findHandler.go f a t) Q E e d acts (U.setVm (U.vm.noted f.method.cls x.catchType (.cls cc))) := fun Q E d acts =>
            (mx_go_cold hcv h3 (resolveClass_links e.toSetting hcl₀) hcl₀.ready (by simp [Vm.noted])).trans (W.findHandler_go_class (s := U.setVm (U.vm.noted f.method.cls x.catchType (.cls cc))) hcv h3 hcl₀.ready hcell hobj hks ⟨kt', hkt'⟩)
          have hasg : (U.setVm (U.vm.noted f.method.cls x.catchType (.cls cc))).vm.assignable cell.cls cc = s.vm.assignable cell.cls cc := hW'.alike.assignable cell.cls cc
          by_cases hzz : h.2.2.1 = z
          · rw [if_pos hzz] at hc
            cases hc
            rw [hzz] at hcc
            cases hcc.symm.trans hcls
            have hself : s.vm.assignable cell.cls cell.cls = true := by
              rcases hz with rfl | rfl
              · obtain ⟨c3, c4, g3, g4, g5⟩ := Cond.castable_spec (args := #[]) (first := s) (o := none) (idx := []) (hW #[] (.castable ms_iae ms_iae) (by decide +kernel) rfl)
                cases g3.symm.trans hcls
                cases g4.symm.trans hcls
                exact g5
              · obtain ⟨c3, c4, g3, g4, g5⟩ := Cond.castable_spec (args := #[]) (first := s) (o := none) (idx := []) (hW #[] (.castable ms_ise ms_ise) (by decide +kernel) rfl)
                cases g3.symm.trans hcls
                cases g4.symm.trans hcls
                exact g5
            refine ⟨_, x.handlerPc, hW', ?_, fun Q E d acts => (step Q E d acts).trans (by rw [hasg, if_pos hself])⟩
            split at h6
            · rename_i n hdn
              simp only [Bool.and_eq_true, decide_eq_true_eq] at h6
              exact Or.inl ⟨n, hdn, h6.1, h6.2⟩
            · rename_i n hdn
              simp only [Bool.and_eq_true, decide_eq_true_eq] at h6
              rw [h6.1] at hdn
              exact Or.inr ⟨hdn, h6.2⟩
            · cases h6
          · rw [if_neg hzz] at hc
            have hno : s.vm.assignable cell.cls cc = false := by
              rcases hz with rfl | rfl
              · have hh : h.2.2.1 = 8002 := by rcases h4 with h4 | h4; exact absurd h4 hzz; exact h4
                rw [hh] at hcc
                obtain ⟨c3, c4, g3, g4, g5⟩ := hN2
                cases g3.symm.trans hcls
                cases g4.symm.trans hcc
                exact g5
              · have hh : h.2.2.1 = 8001 := by rcases h4 with h4 | h4; exact h4; exact absurd h4 hzz
                rw [hh] at hcc
                obtain ⟨c3, c4, g3, g4, g5⟩ := hN1
                cases g3.symm.trans hcls
                cases g4.symm.trans hcc
                exact g5
            obtain ⟨vm', hp, w1, w2, w3⟩ := ih r t ht hl' hq' (U.setVm (U.vm.noted f.method.cls x.catchType (.cls cc))) hW' hcell pc' i hc
            refine ⟨vm', hp, w1, w2, fun Q E d acts => (step Q E d acts).trans ?_⟩
            rw [hasg, if_neg (by rw [hno]; decide), w3 Q E d acts, State.setVm_twice]
        · rw [if_neg hcov] at hc
          have hcv : covers x f.pc = false := by
            simp only [covers, Bool.and_eq_false_iff, decide_eq_false_iff_not]
            rw [h1, h2]
            by_cases h9 : h.1 ≤ f.pc
            · exact Or.inr (fun q => hcov ⟨h9, q⟩)
            · exact Or.inl h9
          obtain ⟨vm', hp, w1, w2, w3⟩ := ih r t ht hl' hq' U hWU hcell pc' i hc
          exact ⟨vm', hp, w1, w2, fun Q E d acts => (W.findHandler_go_skip hcv).trans (w3 Q E d acts)⟩
end MS9
