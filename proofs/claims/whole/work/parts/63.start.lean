/-! the start: what holds before the first call -/
theorem clI.gm {S : Nat → Prop} {G G' : ma_G} (h : clI G) (hg : gm S G G') (h0 : ∀ a, 1 ≤ a → a < 49 → ¬ S a) : clI G' := by
  obtain ⟨h1, h2, h3, h4, h5, h6, h7⟩ := h
  exact ⟨(hg.obj (obj_lt h1) (h0 1 (by omega) (by omega))).trans h1, h2.gm hg (fun a q1 q2 => h0 a (by omega) (by omega)), h3.gm hg (fun a q1 q2 => h0 a (by omega) (by omega)), h4.gm hg (fun a q1 q2 => h0 a (by omega) (by omega)), h5.gm hg (fun k hk => h0 _ (by omega) (by omega)), (hg.obj (obj_lt h6) (h0 _ (by omega) (by omega))).trans h6, (hg.ints (ints_lt h7) (h0 _ (by omega) (by omega))).trans h7⟩
theorem mdl.gm {b : Nat} {A : Nat → Nat → Int32} {t cn lt gd : Int32} {S : Nat → Prop} {G G' : ma_G} (h : mdl b A t cn lt gd G) (hg : gm S G G') (h0 : ∀ a, b ≤ a → a < b + 14 → ¬ S a) : mdl b A t cn lt gd G' :=
  ⟨(hg.obj (obj_lt h.1) (h0 b (by omega) (by omega))).trans h.1, fun k hk => (hg.ints (ints_lt (h.2 k hk)) (h0 _ (by omega) (by omega))).trans (h.2 k hk)⟩
theorem inv_start {L : Nat} {xs : Nat → Int32} {G : ma_G} {o : Nat → Int64} {g : Nat → Int32} (hc : clI G) (hg : ∀ u, u < 3 → g u = nI 1) (hm : mdl 49 (va_up (fun _ _ => 0) 0 g) 0 0 0 0 G) (he : envO L xs G o) : INV L xs 0 G o := by
  obtain ⟨h1, h2, h3, h4, h5, h6⟩ := hc
  refine ⟨va_up (fun _ _ => 0) 0 g, fun _ => 0, fun _ _ => 0, fun _ _ _ => 0, fun _ => 1, fun _ => 0, fun _ => 0, fun _ => 0, fun _ _ => 0, fun _ => [], 0, 0, 0, ?_, ?_, hm, he⟩
  · refine ⟨⟨fun c hc => ⟨nI_0.symm, Nat.zero_le _⟩, fun c d _ _ => ⟨nI_0.symm, Nat.le_refl _⟩⟩, fun c b d _ _ _ => ⟨nI_0.symm, Nat.zero_le _⟩, fun v hv => ⟨hg v hv, Nat.le_refl _, show 1 ≤ 4 by decide⟩, fun s hs => ⟨nI_0.symm, Nat.zero_le _, nI_0.symm, Nat.zero_le _⟩, ?_, ?_, fun c hc => rfl⟩
    · exact fun s hs => ⟨show 0 < 4 by decide, nI_0.symm, fun e he => ⟨nI_0.symm, Nat.zero_le _⟩, fun j hj => absurd hj (Nat.not_lt_zero j), rfl, fun x hx => absurd (show x ∈ ([] : List Nat) from hx) (by simp)⟩
    · exact fun a ha h => absurd h (Nat.not_lt_zero _)
  · refine ⟨⟨⟨h1, h2.1, h3.1, h3.2.1, h4.1⟩, fun c hc => ⟨_, _, (h3.2.2 c hc).1, fun j hj => absurd hj (Nat.not_lt_zero j)⟩, fun c hc => ⟨_, _, (h3.2.2 c hc).2, fun d _ => ⟨nI_0.symm, Nat.zero_le _⟩, fun b d _ _ => ⟨nI_0.symm, Nat.zero_le _⟩⟩⟩, fun s hs => ⟨_, _, _, h4.2 s hs, fun e _ => nI_0.symm, fun j hj => absurd hj (Nat.not_lt_zero j), fun j hj => absurd hj (Nat.not_lt_zero j)⟩, fun v hv => h2.2 v hv, ⟨_, h5⟩, _, _, _, _, h6⟩
theorem inv_thr {L : Nat} {xs : Nat → Int32} {t : Int32} {G : ma_G} {o : Nat → Int64} (h : INV L xs t G o) : Ca 9 101 [.ref 49] G (.inl (some (.int t)), G, 0, 0) := by
  obtain ⟨A, n, kn, hr, dz, w, my, wr, sy, ls, cn, lt, gd, hst, hcl, hm, he⟩ := h
  exact p_X7_thrown 8 hm
theorem inv_o6 {L : Nat} {xs : Nat → Int32} {t : Int32} {G : ma_G} {o : Nat → Int64} (h : INV L xs t G o) : ∃ fs, ma_obj G 1 6 = some fs := by
  obtain ⟨A, n, kn, hr, dz, w, my, wr, sy, ls, cn, lt, gd, hst, hcl, hm, he⟩ := h
  exact ⟨_, hcl.1.1.1⟩
theorem inv_o7 {L : Nat} {xs : Nat → Int32} {t : Int32} {G : ma_G} {o : Nat → Int64} (h : INV L xs t G o) : ∃ fs, ma_obj G 49 7 = some fs := by
  obtain ⟨A, n, kn, hr, dz, w, my, wr, sy, ls, cn, lt, gd, hst, hcl, hm, he⟩ := h
  exact ⟨_, hm.1⟩
theorem inv_s {L : Nat} {xs : Nat → Int32} {t : Int32} {G : ma_G} {o : Nat → Int64} (h : INV L xs t G o) : ma_scr G 0 = some (L, xs) := by
  obtain ⟨A, n, kn, hr, dz, w, my, wr, sy, ls, cn, lt, gd, hst, hcl, hm, he⟩ := h
  exact he.s
theorem inv_out {L : Nat} {xs : Nat → Int32} {t : Int32} {G : ma_G} {o : Nat → Int64} (h : INV L xs t G o) : ma_longs G 63 = some (1, o) := by
  obtain ⟨A, n, kn, hr, dz, w, my, wr, sy, ls, cn, lt, gd, hst, hcl, hm, he⟩ := h
  exact he.2
section LW
variable {d : Nat} {M : ma_M} {pc aux : Nat} {L : ma_L} {S : List Value} {G : ma_G} {Qc : Option Value → ma_G → Prop} {C' S' : Nat}
theorem rk_iret {v : Int32} {ty : FieldType} (hf : ma_find M.cd pc = some (.ireturn, aux)) (hr : M.ret = some ty) (hn : narrow ty (.int v) = .int v) (hq : Qc (some (.int v)) G) : Rq d M pc L [.int v] G (Qk C' S' Qc) := ⟨_, ru_iret hf hr hn, some (.int v), G, 0, 0, rfl, Nat.zero_le _, Nat.zero_le _, hq⟩
theorem rk_callv {x : Instr} {k : Nat} {N : ma_M} (C Sx : Nat) (As rest : List Value) {v : Option Value} {G1 : ma_G} {c1 s1 : Nat} (pc' : Nat) (hf : ma_find M.cd pc = some (x, aux)) (hi : ma_inv x aux = some k) (hN : prog k = some N) (hS0 : S = As.reverse ++ rest) (hna : As.length = N.na) (hr : (rest.map fun v => v.category).sum ≤ 8) (hc : ∀ v ∈ As, v.category = 1) (hrc : ma_rcv N As G)
    (hcl : Ca d k As G (.inl v, G1, c1, s1)) (hp : pc + 3 = pc') (hC : C + c1 ≤ C') (hS : Sx + s1 ≤ S') (kk : Rq d M pc' L (v.toList ++ rest) G1 (Qk C Sx Qc)) : Rq d M pc L S G (Qk C' S' Qc) := by
  obtain ⟨r, hr1, hq⟩ := kk
  exact ⟨ma_add r c1 s1, ru_callc As rest pc' hf hi hN hS0 hna hr hc hrc hcl hp hr1, rk_add hq hC hS⟩
theorem rk_mono {C Sx : Nat} (hC : C ≤ C') (hS : Sx ≤ S') (kk : Rq d M pc L S G (Qk C Sx Qc)) : Rq d M pc L S G (Qk C' S' Qc) := by
  obtain ⟨r, h1, v, G', c, s, rfl, h2, h3, h4⟩ := kk
  exact ⟨_, h1, v, G', c, s, rfl, Nat.le_trans h2 hC, Nat.le_trans h3 hS, h4⟩
theorem rq_alen {n : Nat} {f : Nat → Int32} {Q : ma_R → Prop} (pc' : Nat) (hf : ma_find M.cd pc = some (.arraylength, aux)) (ho : ma_scr G 0 = some (n, f)) (hp : pc + 1 = pc') (k : Rq d M pc' L (.int (nI n) :: S) G Q) : Rq d M pc L (.ref 0 :: S) G Q := by
  subst hp
  refine rq_st _ hf ?_ k
  show (ma_scr G 0).map (fun q => (pc + 1, L, Value.int (Int32.ofNat q.1) :: S, G)) = _
  rw [ho]
  rfl
theorem rq_and5 {a : Int32} {Q : ma_R → Prop} (pc' : Nat) (hf : ma_find M.cd pc = some (.iand, aux)) (hp : pc + 1 = pc') (k : ∀ j : Nat, j < 32 → Rq d M pc' L (.int (nI j) :: S) G Q) : Rq d M pc L (.int (nI 31) :: .int a :: S) G Q := by
  subst hp
  obtain ⟨j, hj, e⟩ := pk_andE a (m := nI 31) 5 (by decide)
  refine rq_st (pc + 1) hf ?_ (k j hj)
  show some (pc + 1, L, Value.int (a &&& nI 31) :: S, G) = _
  rw [e]
end LW
theorem lg_z (x : Int64) : ma_if .eq (lg_cmp x x) = true := ma_ifI.mpr ((lg_cmp_eq x x).mpr rfl)
theorem sub6 {n i : Nat} (h : n < 6) (hi : i < 2 ^ 31) : ma_cmp .gt (nI i) (nI n - nI 6) = true := by
  refine ma_cmpI.mpr (show nI n - nI 6 < nI i from ?_)
  have h1 : nI n - nI 6 < 0 := by
    rcases (show n = 0 ∨ n = 1 ∨ n = 2 ∨ n = 3 ∨ n = 4 ∨ n = 5 by omega) with rfl | rfl | rfl | rfl | rfl | rfl <;> decide
  exact Int32.lt_of_lt_of_le h1 (nI_pos' hi)
def QF (v : Option Value) (_ : ma_G) : Prop := v = some (.int (nI 1))
