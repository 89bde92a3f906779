/-! MS11: what the abstract machine comes to, the machine comes to -/
theorem mx_stepCatch {e : Env} {s : State} {a : Addr} {f : JFrame} {r : List Frame} {pc : Nat} {vm' : Vm} (hfind : ∀ (Q : Handler → Pre) (E : CtlPost) (d : Bool) (acts : List Action), wp (findHandler f a) Q E e d acts s ↔ Q (.found pc) d acts (s.setVm vm')) :
    (stepThrowing e s a (.java f :: r)).Is ((s.setVm vm').setFrames (.java { f with pc := pc, stack := [.ref a] } :: r)) [] := by
  simp only [stepThrowing, searchFrame, vmDo]
  generalize hr : Sem.go _ e false [] s = res
  obtain ⟨as, rfl, ha⟩ := Sem.eq_ok_of hr (a := Handler.found pc) (s' := s.setVm vm') (acts' := []) (by simp [hfind _ _ _ _])
  exact ⟨rfl, ha⟩
section MS11
variable {p : Program} {l : Launch} {e : Env} {R : Room} {s : State} {m : MethodId} {args : Array Value} {below : List Frame} {meth : Method} {c : Code} {H : Heap} {locs : List Loc} {cells slots : Nat} {Q : State → Prop}
variable {D : va_G} {tc : Nat → ClassId} {A : Nat → Prop} {M N : ma_M} {as0 as : List Nat} {G0 G : ma_G} {pc aux : Nat} {ls : Array Slot} {L : ma_L} {S : List Value} {prog : Nat → Option ma_M}
theorem mx_caught {T : State} (X : Stand p l e R s m args below meth c T locs cells slots) {g : JFrame} (hg : g.method = m) {x : Addr} {vm' : Vm} {hp : Nat} (hW' : s.WarmedH vm')
    (hf : ∀ (Q : Handler → Pre) (E : CtlPost) (d : Bool) (acts : List Action), wp (findHandler.go g x c.exceptionTable.toList) Q E e d acts ((T.setTop g).pushFrame (.throwing x)) ↔ Q (.found hp) d acts (((T.setTop g).pushFrame (.throwing x)).setVm vm')) :
    Stand p l e R s m args below meth c (T.setVm vm') locs cells slots ∧ ∀ target, Steps p.tables e below ((T.setVm vm').setTop { g with pc := hp, stack := [.ref x] }) target → Steps p.tables e below ((T.setTop g).pushFrame (.throwing x)) target := by
  refine ⟨X.noted hW', fun target hrest => ?_⟩
  subst hg
  have h : At T g.method c below := X.here
  obtain ⟨hgo, hw⟩ := h.throwing x
  refine Steps.head hgo hw ?_
  have hmv : ((T.setTop g).pushFrame (.throwing x)).vm = T.vm := Stand.throwing_vm T g x
  have hfind : ∀ (Q : Handler → Pre) (E : CtlPost) (d : Bool) (acts : List Action), wp (findHandler g x) Q E e d acts ((T.setTop g).pushFrame (.throwing x)) ↔ Q (.found hp) d acts (((T.setTop g).pushFrame (.throwing x)).setVm vm') := fun Q E d acts =>
    (W.findHandler_eq (meth := meth) (code := c) (by rw [hmv]; exact X.method') X.code).trans (hf Q E d acts)
  rw [stepThread_throwing (frames_entered h.top _), (mx_stepCatch (s := (T.setTop g).pushFrame (.throwing x)) hfind).1]
  obtain ⟨g₀, hg0⟩ := Option.isSome_iff_exists.mp h.top
  obtain ⟨r, hr⟩ := State.topJava?_eq_some.mp hg0
  have hr' : (T.setVm vm').frames = .java g₀ :: r := hr
  have e1 : ((T.setTop g).pushFrame (.throwing x)).setVm vm' = ((T.setVm vm').setTop g).pushFrame (.throwing x) := by
    rw [State.pushFrame, State.pushFrame, State.frames_setTop _ hr, State.frames_setTop _ hr', State.setTop_of_frames _ hr, State.setTop_of_frames _ hr', State.setFrames_setFrames, State.setFrames_setFrames]
    rfl
  rw [e1, State.pushFrame, State.setFrames_setFrames, State.setTop_of_frames _ hr', State.setFrames_setFrames]
  rw [State.setTop_of_frames _ hr'] at hrest
  rw [hr]
  exact hrest
set_option maxHeartbeats 4000000 in
/-- **the simulation** -/
theorem ms_sim {d mc ms : Nat} (hC : ms_C p e s m meth c D tc A M as0 G0) (hI : ma_goodI prog M) (hgood : ∀ k N, prog k = some N → ma_goodM N) (hR : R = ms_rm d mc ms)
    (hcall : ∀ d', d = d' + 1 → ∀ k N As G o G1 c1 s1, prog k = some N → As.length = N.na → ma_call prog d k As G (o, G1, c1, s1) → ∀ as sz, mx_Met l N.y (mx_cw N.y N.cc N.nL N.ret N.hs) (ms_rm d' c1 s1) (ms_Pc D tc as G sz As) (ms_Qc D tc (va_A (ms_ws as tc G) sz) as G o G1) c1 s1 (va_A (ms_ws as tc G) sz))
    (hthrow : ∀ k As G z G1 c1 s1, ma_call prog d k As G (.inr z, G1, c1, s1) → z = 8001 ∨ z = 8002) :
    ∀ (n pc : Nat) (L : ma_L) (S : List Value) (G : ma_G) (r : ma_R), ma_run prog (ma_call prog d) d M n pc L S G r → ∀ (as : List Nat) (H : Heap) (locs : List Loc) (ls : Array Slot) (cells slots : Nat), ms_P D tc A s as0 G0 as G H locs → ms_L as M.nL ls L → ms_wL G.length L → ms_wS G.length S →
      cells + r.2.2.1 ≤ mc → slots + r.2.2.2 ≤ ms → W p l e R s m args below meth c H locs cells slots (mx_MQ below (ms_Qc D tc A as0 G0 r.1 r.2.1) args s mc ms A) (F0 m pc ls (S.map (ms_rv as))) := by
  intro n
  induction n with
  | zero => intro pc L S G r h; exact absurd h id
  | succ n ih =>
    intro pc L S G r h as H locs ls cells slots hP hL hwL hwS hcs hss
    obtain ⟨x, aux, hfind, h⟩ := h
    obtain ⟨hat, hcc⟩ := hI.1 pc x aux hfind
    have hRf : R.frames = d + 4 := by rw [hR]; rfl
    have hRl : R.locals = 110 + 40 * d := by rw [hR]; rfl
    have hRc : R.cells = mc := by rw [hR]; rfl
    have hRs : R.slots = ms := by rw [hR]; rfl
    rcases h with ⟨pc', L', S', G', hs, hrun⟩ | ⟨pc', S', e0, k, r', hs, hrun, rfl⟩ | ⟨v, hs, rfl⟩ | ⟨ix, rfl, ha1, ha2, hd2, hhs, hsum, rfl⟩ | ⟨k, N, As, rest, o, G1, c1, s1, hinv, hN, hS, hna, hsum, hcat, hrcv, hc, ho⟩
    · exact ms_step hC hat hs hP hL hwL hwS (by omega) (by omega) (by omega) (by omega) (fun H' locs' ls' hP' hL' hwL' hwS' => ih pc' L' S' G' r hrun as H' locs' ls' cells slots hP' hL' hwL' hwS' hcs hss)
    · simp only [ma_add] at hcs hss ⊢
      exact ms_new hC hat hs hP hL hwL hwS (by omega) (by omega) (fun q H' hP' hL' hwL' hwS' => ih pc' L S' (G ++ [e0]) r' hrun (as ++ [q]) H' locs ls (cells + 1) (slots + k) hP' hL' hwL' hwS' (by omega) (by omega))
    · exact ms_ret hC hat hs hP hcs hss
    · have hth : ma_thrc M pc ix aux = true := by
        rw [ma_cchk, if_neg (by omega)] at hcc
        exact hcc
      exact ms_thr hC hat hth hhs hsum hP hL hd2 hR hcs hss
    · obtain ⟨d', rfl⟩ : ∃ d', d = d' + 1 := by
        cases d with
        | zero => exact absurd hc id
        | succ d' => exact ⟨d', rfl⟩
      have hM := hcall d' rfl k N As G o G1 c1 s1 hN hna hc as H.size
      have hc1 : c1 ≤ r.2.2.1 ∧ s1 ≤ r.2.2.2 := by
        rcases o with v | z
        · obtain ⟨r', -, rfl⟩ := ho
          simp only [ma_add]
          exact ⟨Nat.le_add_left _ _, Nat.le_add_left _ _⟩
        · dsimp only at ho
          split at ho
          · obtain ⟨r', -, -, -, rfl⟩ := ho
            simp only [ma_add]
            exact ⟨Nat.le_add_left _ _, Nat.le_add_left _ _⟩
          · obtain ⟨-, rfl⟩ := ho
            exact ⟨Nat.le_refl _, Nat.le_refl _⟩
      have hrunC := ms_run (p := p) (l := l) (e := e) (args := args) (below := below) (cells := cells) (slots := slots) hC hat hcc hinv hN (hgood k N hN) hP hL hS hna hsum hcat hrcv hwS hM hR (by omega) (by omega)
      intro T hT X
      obtain ⟨oc, st₀, t, T', L1, hst, X', hL1, e1, e2, hq, hgo⟩ := hrunC T hT X
      obtain ⟨xs, hP', hout, hlen⟩ := ms_P_back hC hP hst hq hL1
      have hal : as.length = G.length := hP.2.1
      have hL' : ms_L (as ++ xs) M.nL ls L := hL.ext (by rw [hal]; exact hwL)
      have hwL' : ms_wL G1.length L := hwL.mono hlen
      have hwR : ms_wS G.length rest := fun v hv => hwS v (by rw [hS]; exact List.mem_append_right _ hv)
      rcases o with v | z
      · obtain ⟨r', hrun, rfl⟩ := ho
        simp only [ma_add] at hcs hss ⊢
        cases oc with
        | threw y => exact absurd hout id
        | returned w =>
          obtain ⟨rfl, hnr⟩ := hout
          have hwv : ms_wS G1.length (w.toList ++ rest) := fun v hv => by
            rcases List.mem_append.mp hv with hv | hv
            · intro k e
              subst e
              have : w = some (.ref k) := by simpa using hv
              exact absurd this (hnr k)
            · exact (hwR v hv).mono hlen
          obtain ⟨u, u1, u2⟩ := ih (pc + 3) L (w.toList ++ rest) G1 r' hrun (as ++ xs) t.heap (locs ++ L1) ls (cells + c1) (slots + s1) hP' hL' hwL' hwv (by omega) (by omega) T' e1 X'
          refine ⟨u, hgo u ?_, u2⟩
          have e3 : (w.toList ++ rest).map (ms_rv (as ++ xs)) = w.toList ++ rest.map (ms_rv as) := by
            rw [List.map_append, ms_S.ext (S := rest) (by rw [hal]; exact hwR)]
            congr 1
            cases w with
            | none => rfl
            | some v => simp only [Option.toList, List.map_cons, List.map_nil]; rw [ms_rv_nr (fun a e => hnr a (by rw [e]))]
          rw [e3] at u1
          exact u1
      · cases oc with
        | returned w => exact absurd hout id
        | threw y =>
          obtain ⟨hy, cell, hcell, hvm, hcls, kk, hkk⟩ := hout
          have hzz := hthrow _ _ _ _ _ _ _ hc
          obtain ⟨hx, hb, hml, hex, hr, hlk, hown, hnm, hV, hA, hZ, hX, htr⟩ := id hC
          have hpl : e.platform.magicAccessors = ({} : Platform).magicAccessors := by rw [X.admits.platform]
          have hclsS : s.vm.findClass (ms_xn z) = some cell.cls := by
            rw [← X'.warmed.alike.findClass, e2]; exact hcls
          dsimp only at ho
          split at ho
          · rename_i pc' i hcatch
            obtain ⟨r', hi, hok, hrun, rfl⟩ := ho
            simp only [ma_add] at hcs hss ⊢
            obtain ⟨vm', hp, w1, w2, w3⟩ := mx_go (own := m.cls) (args := args) (a := y) (f := F0 m pc ls (rest.map (ms_rv as))) (e := e) (z := z) (cell := cell) hV.2.1 hV.2.2.1 hV.2.2.2.1 hpl hown hzz (fun k q => by rw [hvm] at q; cases q) hclsS M.hs M.hx c.exceptionTable.toList hex hI.2.1 hI.2.2.1 ((T'.setTop (F0 m pc ls (rest.map (ms_rv as)))).pushFrame (.throwing y)) (by rw [Stand.throwing_vm]; exact X'.warmed) (by rw [Stand.throwing_heap, e1]; exact hcell) pc' i hcatch
            obtain ⟨X2, st2⟩ := mx_caught X' (g := F0 m pc ls (rest.map (ms_rv as))) rfl w1 w3
            have hlset : ∀ ls' : Array Slot, lv_has ls' M.nL ((i, .ref y) :: (ms_lv (as ++ xs) L).filter (fun q => !(q.1 == i) && !(q.1 + 1 == i && q.2.category == 2))) → ms_L (as ++ xs) M.nL ls' (L.set i none) := fun ls' h' => by
              refine ⟨by simpa using hL'.1, h'.1, h'.2.1, fun q hq => ?_⟩
              obtain ⟨v, hv, hq2⟩ := ms_lv_mem.mp hq
              by_cases hqi : q.1 = i
              · rw [hqi, List.getElem?_set_self hi] at hv
                cases hv
              · rw [List.getElem?_set_ne (fun e => hqi e.symm)] at hv
                refine h'.2.2 q (List.mem_cons_of_mem _ (List.mem_filter.mpr ⟨ms_lv_mem.mpr ⟨v, hv, hq2⟩, ?_⟩))
                have hn : (q.1 == i) = false := by simpa using hqi
                simp only [hn, Bool.not_false, Bool.true_and, Bool.not_eq_true', Bool.and_eq_false_iff]
                by_cases hj : q.1 + 1 = i
                · right
                  rw [hq2, ms_rv_cat]
                  subst hj
                  simp only [ma_ok1, hv] at hok
                  have : v.category = 1 := by simpa using hok
                  rw [this]; rfl
                · left
                  simpa using hj
            have hwL2 : ms_wL G1.length (L.set i none) := fun j v hj => by
              rw [List.getElem?_set] at hj
              split at hj
              · first | (cases hj; done) | (split at hj <;> cases hj)
              · exact hwL' j v hj
            have hWh : W p l e R s m args below meth c t.heap (locs ++ L1) (cells + c1) (slots + s1) (mx_MQ below (ms_Qc D tc A as0 G0 r'.1 r'.2.1) args s mc ms A) (F0 m hp ls [.ref y]) := by
              have hgo2 : ∀ ls' : Array Slot, lv_has ls' M.nL ((i, .ref y) :: (ms_lv (as ++ xs) L).filter (fun q => !(q.1 == i) && !(q.1 + 1 == i && q.2.category == 2))) → W p l e R s m args below meth c t.heap (locs ++ L1) (cells + c1) (slots + s1) (mx_MQ below (ms_Qc D tc A as0 G0 r'.1 r'.2.1) args s mc ms A) (F0 m pc' ls' []) := fun ls' h' =>
                ih pc' (L.set i none) [] G1 r' hrun (as ++ xs) t.heap (locs ++ L1) ls' (cells + c1) (slots + s1) hP' (hlset ls' h') hwL2 (fun v hv => by cases hv) (by omega) (by omega)
              rcases w2 with ⟨n, hdn, hni, rfl⟩ | ⟨hdn, rfl⟩
              · exact lv_astore_n hx hb hdn hni hL'.2 (by rw [← hL'.1]; exact hi) rfl hgo2
              · exact lv_astore hx hb hdn hL'.2 (by rw [← hL'.1]; exact hi) rfl hgo2
            obtain ⟨u, u1, u2⟩ := hWh (T'.setVm vm') e1 X2
            exact ⟨u, hgo u (st2 u u1), u2⟩
          · obtain ⟨hhs, rfl⟩ := ho
            have htab : c.exceptionTable.toList = [] := by
              rw [hhs] at hex
              exact List.map_eq_nil_iff.mp hex
            have Xw := stand_widen X' (show cells + c1 ≤ mc from hcs) (show slots + s1 ≤ ms from hss)
            obtain ⟨v1, v2, v3, v4, v5⟩ := Xw.leaveThrown y (g := F0 m pc ls (rest.map (ms_rv as))) rfl rfl rfl (by rw [htab]; intro x hx; cases hx) hlk
            obtain ⟨⟨ys, hys⟩, q2, q3, q4, q5, q6, q7, q8⟩ := hP'
            refine ⟨_, hgo _ v1, .threw y, v2, v3, ⟨ys, ⟨?_, cell, ?_, hvm, ?_, ?_⟩, by rw [← hys]; exact q2, q4, q5, ?_, by rw [← hys]; exact q7, ?_⟩, locs ++ L1, ⟨v4, v5⟩, q8.2.2⟩
            · rw [hst] at hy
              exact Nat.le_trans hP.2.2.2.2.2.2.2.1 hy
            · show (T'.setFrames _).heap[y]? = _
              rw [show (T'.setFrames (.throwing y :: below)).heap = T'.heap from rfl, e1]; exact hcell
            · show (T'.setFrames _).vm.findClass _ = _
              rw [show (T'.setFrames (.throwing y :: below)).vm = T'.vm from rfl, e2]; exact hcls
            · refine ⟨kk, ?_⟩
              rw [show (T'.setFrames (.throwing y :: below)).vm = T'.vm from rfl, e2]; exact hkk
            · rw [show (T'.setFrames (.throwing y :: below)).heap = T'.heap from rfl, e1, ← hys]; exact q6
            · exact q8.F (by rw [show (T'.setFrames (.throwing y :: below)).heap = T'.heap from rfl, e1])
/-- what is thrown is one of the two -/
theorem ma_thrown {prog : Nat → Option ma_M} : ∀ (d k : Nat) (As : List Value) (G : ma_G) (z : Nat) (G1 : ma_G) (c1 s1 : Nat), ma_call prog d k As G (.inr z, G1, c1, s1) → z = 8001 ∨ z = 8002 := by
  intro d
  induction d with
  | zero => intro k As G z G1 c1 s1 h; exact absurd h id
  | succ d ihd =>
    intro k As G z G1 c1 s1 h
    obtain ⟨M, n, -, h⟩ := h
    generalize hr : ((.inr z, G1, c1, s1) : ma_R) = r at h
    have key : ∀ (n pc : Nat) (L : ma_L) (S : List Value) (G : ma_G) (r : ma_R), ma_run prog (ma_call prog d) d M n pc L S G r → ∀ z, r.1 = .inr z → z = 8001 ∨ z = 8002 := by
      intro n
      induction n with
      | zero => intro pc L S G r h; exact absurd h id
      | succ n ih =>
        intro pc L S G r h z hz
        obtain ⟨x, aux, hfind, h⟩ := h
        rcases h with ⟨pc', L', S', G', hs, hrun⟩ | ⟨pc', S', e0, k, r', hs, hrun, rfl⟩ | ⟨v, hs, rfl⟩ | ⟨ix, rfl, ha1, ha2, hd2, hhs, hsum, rfl⟩ | ⟨k, N, As, rest, o, G1, c1, s1, hinv, hN, hS, hna, hsum, hcat, hrcv, hc, ho⟩
        · exact ih _ _ _ _ _ hrun z hz
        · exact ih _ _ _ _ _ hrun z hz
        · cases hz
        · cases hz; omega
        · rcases o with v | y
          · obtain ⟨r', hrun, rfl⟩ := ho
            exact ih _ _ _ _ _ hrun z hz
          · dsimp only at ho
            split at ho
            · obtain ⟨r', -, -, hrun, rfl⟩ := ho
              exact ih _ _ _ _ _ hrun z hz
            · obtain ⟨-, rfl⟩ := ho
              cases hz
              exact ihd _ _ _ _ _ _ _ hc
    exact key n 0 _ _ _ r h z (by rw [← hr])
theorem ms_ent_len {As : List Value} {n : Nat} (h : As.length ≤ n) : (ma_ent As n).length = n := by
  simp only [ma_ent, List.length_append, List.length_map, List.length_replicate]; omega
theorem ms_ent_at {As : List Value} {n i : Nat} {v : Value} (h : (ma_ent As n)[i]? = some (some v)) : As[i]? = some v := by
  unfold ma_ent at h
  by_cases hi : i < As.length
  · rw [List.getElem?_append_left (by simpa using hi), List.getElem?_map] at h
    cases ha : As[i]? with
    | none => rw [ha] at h; cases h
    | some w => rw [ha] at h; cases h; rfl
  · rw [List.getElem?_append_right (by simpa using hi), List.getElem?_replicate] at h
    split at h <;> cases h
theorem ms_args_at : ∀ (vs : List Value) (j : Nat), (∀ v ∈ vs, v.category = 1) → ∀ (i : Nat) (v : Value), vs[i]? = some v → (j + i, v) ∈ lv_args j vs := by
  intro vs
  induction vs with
  | nil => intro j _ i v h; simp at h
  | cons w ws ih =>
    intro j hc i v h
    have hw : w.category = 1 := hc w List.mem_cons_self
    simp only [lv_args, hw]
    cases i with
    | zero =>
      simp at h
      subst h
      exact List.mem_cons_self
    | succ i =>
      have := ih (j + 1) (fun v hv => hc v (List.mem_cons_of_mem _ hv)) i v (by simpa using h)
      refine List.mem_cons_of_mem _ ?_
      rw [show j + (i + 1) = j + 1 + i by omega]
      simpa using this
theorem ms_sl_len {vs : List Value} (hc : ∀ v ∈ vs, v.category = 1) : (lg_sl vs).length = vs.length := by
  induction vs with
  | nil => rfl
  | cons w ws ih =>
    have hw : w.category = 1 := hc w List.mem_cons_self
    have := ih (fun v hv => hc v (List.mem_cons_of_mem _ hv))
    simp only [lg_sl, List.flatMap_cons, hw] at this ⊢
    simp [this]
/-- the locals at a method's entry -/
theorem ms_entry {as : List Nat} {As : List Value} {n : Nat} (hc : ∀ v ∈ As, v.category = 1) (hn : As.length ≤ n) :
    ms_L as n ((lg_sl (As.map (ms_rv as)) ++ List.replicate (n - (lg_sl (As.map (ms_rv as))).length) Slot.unset).toArray) (ma_ent As n) := by
  have hc' : ∀ v ∈ As.map (ms_rv as), v.category = 1 := fun v hv => by
    obtain ⟨w, hw, rfl⟩ := List.mem_map.mp hv
    rw [ms_rv_cat]; exact hc w hw
  have hl := lv_entry (As.map (ms_rv as)) (n := n) (by rw [ms_sl_len hc', List.length_map]; exact hn)
  refine ⟨ms_ent_len hn, hl.1, hl.2.1, fun q hq => ?_⟩
  obtain ⟨v, h1, h2⟩ := ms_lv_mem.mp hq
  have := ms_args_at (As.map (ms_rv as)) 0 hc' q.1 (ms_rv as v) (by rw [List.getElem?_map, ms_ent_at h1]; rfl)
  rw [Nat.zero_add] at this
  rw [h2]
  exact hl.2.2 (q.1, ms_rv as v) this
theorem ms_met1 (hI : ∀ k N, prog k = some N → ma_goodI prog N ∧ ma_goodM N) (hfl : l.flags = flags0) (d : Nat)
    (ih : ∀ d', d = d' + 1 → ∀ (k : Nat) (N : ma_M) (As : List Value) (G : ma_G) (o : ma_O) (G1 : ma_G) (c1 s1 : Nat), prog k = some N → As.length = N.na → ma_call prog d k As G (o, G1, c1, s1) → ∀ (as : List Nat) (sz : Nat), mx_Met l N.y (mx_cw N.y N.cc N.nL N.ret N.hs) (ms_rm d' c1 s1) (ms_Pc D tc as G sz As) (ms_Qc D tc (va_A (ms_ws as tc G) sz) as G o G1) c1 s1 (va_A (ms_ws as tc G) sz))
    (k : Nat) (N : ma_M) (As : List Value) (G : ma_G) (o : ma_O) (G1 : ma_G) (c1 s1 : Nat) (hN : prog k = some N) (hna : As.length = N.na) (hcl : ma_call prog (d + 1) k As G (o, G1, c1, s1)) (as : List Nat) (sz : Nat) :
    mx_Met l N.y (mx_cw N.y N.cc N.nL N.ret N.hs) (ms_rm d c1 s1) (ms_Pc D tc as G sz As) (ms_Qc D tc (va_A (ms_ws as tc G) sz) as G o G1) c1 s1 (va_A (ms_ws as tc G) sz) := by
  obtain ⟨N', n, hN', hrun⟩ := hcl
  cases hN.symm.trans hN'
  obtain ⟨hIN, g1, g2, g3, g4, g5, g6, g7, g8⟩ := hI k N hN
  refine mx_Met.ofW g1 ?_
  intro p e s m args below meth c s₁ B hml hex hv
  obtain ⟨rfl, rfl, hV, h4, h5, h6, h7, h8, h9, h10, h11, h12⟩ := hv
  have hD := h10.self (sz := s.heap.size)
  have hC : ms_C p e s m meth c D tc (va_A (ms_ws as tc G) s.heap.size) N as G := ⟨B.exec, B.bytes, hml, hex, B.returns, B.notSynchronized, by rw [hIN.2.2.2]; exact findClass_of_methodNamed B.named, (name_of_methodNamed B.named B.method).1, hV, fun q h => Or.inr h, h11, h12, Launch.traces_off hfl B.admits⟩
  rw [lg_entry_eq]
  exact ms_sim hC hIN (fun k N h => (hI k N h).2) rfl ih (fun k As G z G1 c1 s1 h => ma_thrown d k As G z G1 c1 s1 h) n 0 _ [] G (o, G1, c1, s1) hrun as s.heap [] _ 0 0 ⟨⟨[], by simp⟩, h4, h5, h6, rfl, h9, hD, va_S.rf⟩ (ms_entry h8 (by omega))
    (fun i v hv => h7 v (List.mem_of_getElem? (ms_ent_at hv))) (fun v hv => by cases hv) (by simp) (by simp)
/-- **every call of the abstract machine is a contract of the machine's** -/
theorem ms_met (hI : ∀ k N, prog k = some N → ma_goodI prog N ∧ ma_goodM N) (hfl : l.flags = flags0) : ∀ (d k : Nat) (N : ma_M) (As : List Value) (G : ma_G) (o : ma_O) (G1 : ma_G) (c1 s1 : Nat), prog k = some N → As.length = N.na → ma_call prog (d + 1) k As G (o, G1, c1, s1) → ∀ (as : List Nat) (sz : Nat),
    mx_Met l N.y (mx_cw N.y N.cc N.nL N.ret N.hs) (ms_rm d c1 s1) (ms_Pc D tc as G sz As) (ms_Qc D tc (va_A (ms_ws as tc G) sz) as G o G1) c1 s1 (va_A (ms_ws as tc G) sz) := by
  intro d
  induction d with
  | zero =>
    intro k N As G o G1 c1 s1 hN hna hcl as sz
    exact ms_met1 hI hfl 0 (fun d' h => by omega) k N As G o G1 c1 s1 hN hna hcl as sz
  | succ d ih =>
    intro k N As G o G1 c1 s1 hN hna hcl as sz
    refine ms_met1 hI hfl (d + 1) (fun d' h => ?_) k N As G o G1 c1 s1 hN hna hcl as sz
    cases h
    exact ih
end MS11
