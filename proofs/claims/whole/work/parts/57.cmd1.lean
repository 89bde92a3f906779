/-! entries -/
theorem st_note {A : Nat → Nat → Int32} {n : Nat → Nat} {kn : Nat → Nat → Nat} {hr : Nat → Nat → Nat → Nat} {dz w my wr : Nat → Nat} {sy : Nat → Nat → Nat} {ls : Nat → List Nat} {c : Nat} {k a0 a1 a2 a3 : Int32} (hst : stOK A n kn hr dz w my wr sy ls) (hc : c < 4) (hn : n c < 24) (hw1 : k = nI 1 → ∃ q dd, q < 12 ∧ dd ≤ 40000 ∧ a0 = nI q ∧ a3 = nI dd) (hw4 : k = nI 4 → ∃ p q, p < 12 ∧ q < 12 ∧ a0 = nI p ∧ a1 = nI q) : stOK (ntA A c (n c) k a0 a1 a2 a3) (nup n c) (kup kn c c) hr dz w my wr sy ls := by
  obtain ⟨hk, hh, hdz, hst7, hsk, hwf, hcc⟩ := hst
  have hle : ∀ x, n x ≤ nup n c x := fun x => by
    by_cases e : x = c
    · rw [e, nup_y]; omega
    · rw [nup_n e]; exact Nat.le_refl _
  refine ⟨mKn_note hk (hcc c hc) hc hn, hh, hdz, hst7, fun s hs => ?_, fun a ha hlt => ?_, fun x hx => ?_⟩
  · obtain ⟨h1, h2, h3, h4, h5, h6⟩ := hsk s hs
    exact ⟨h1, h2, h3, h4, h5, fun x hx => ⟨(h6 x hx).1, Nat.lt_of_lt_of_le (h6 x hx).2 (hle _)⟩⟩
  · by_cases e : a = 24 * c + n c
    · subst e
      have h4 := ntA_4y (A := A) (c := c) (nc := n c) (k := k) (a0 := a0) (a1 := a1) (a2 := a2) (a3 := a3)
      rw [ntA_3, pk_us]
      refine ⟨fun q => ?_, fun q => ?_⟩
      · obtain ⟨q, dd, h1, h2, h3, h5⟩ := hw1 q
        exact ⟨q, dd, h1, h2, h4.1.trans h3, h4.2.2.2.trans h5⟩
      · obtain ⟨q, dd, h1, h2, h3, h5⟩ := hw4 q
        exact ⟨q, dd, h1, h2, h4.1.trans h3, h4.2.1.trans h5⟩
    · have hlt2 : a % 24 < n (a / 24) := by
        by_cases e2 : a / 24 = c
        · rw [e2, nup_y] at hlt
          rw [e2]
          omega
        · rw [nup_n e2] at hlt
          exact hlt
      have h0 := hwf a ha hlt2
      rw [ntA_3, pk_un e, ntA_4n (by omega), ntA_4n (by omega), ntA_4n (by omega)]
      exact h0
  · by_cases e : x = c
    · subst e; rw [kup_y, nup_y, hcc x hx]
    · rw [kup_n (fun q => e q.1), nup_n e]; exact hcc x hx
theorem eIn_c {c : Nat} (hc : c < 4) {G G' : ma_G} (h : sm (eIn c) G G') : sm cIn G G' := h.mono (fun a h => ⟨by have := h.1; omega, by have := h.2; omega⟩)
theorem cl_note {A : Nat → Nat → Int32} {n : Nat → Nat} {kn : Nat → Nat → Nat} {hr : Nat → Nat → Nat → Nat} {dz w my wr : Nat → Nat} {sy : Nat → Nat → Nat} {ls : Nat → List Nat} {c : Nat} {k a0 a1 a2 a3 : Int32} {G G' : ma_G} (hcl : clOK A n kn hr dz w my wr sy ls G) (hc : c < 4) (hs : sm (eIn c) G G') (hR : cRd (ntA A c (n c) k a0 a1 a2 a3) (nup n c) (kup kn c c) hr G') : clOK (ntA A c (n c) k a0 a1 a2 a3) (nup n c) (kup kn c c) hr dz w my wr sy ls G' := by
  obtain ⟨-, hS, hSc, ⟨g, h4⟩, D, sz, k, ld, h5⟩ := hcl
  exact ⟨hR, hS.sm hs (fun a h1 h2 q => absurd q.2 (by omega)), hSc.sm hs (fun a h1 h2 q => absurd q.1 (by omega)), ⟨g, h4.sm hs (fun q => absurd q.2 (by omega)) (fun q => absurd q.2 (by omega))⟩, D, sz, k, ld, h5.sm hs (fun q => absurd q.2 (by omega)) (fun q => absurd q.2 (by omega))⟩
theorem cmd_dose {L : Nat} {xs : Nat → Int32} {t : Int32} {G : ma_G} {o : Nat → Int64} (h : INV L xs t G o) (c p v lot day : Int32) : PRi L xs G 39 [.ref 1, .int c, .int p, .int v, .int lot, .int day, .ref 63] 104 [.ref 49, .int c, .int p, .int v, .int lot, .int day] := by
  obtain ⟨A, n, kn, hr, dz, w, my, wr, sy, ls, cn, lt, gd, hst, hcl, hm, he⟩ := h
  obtain ⟨hk, hh, hdz, hst7, hsk, hwf, hcc⟩ := id hst
  obtain ⟨hR, hS, hSc, ⟨g0, hm0⟩, D0, sz0, k0, ld0, hc0⟩ := id hcl
  have hx := hR.1.1
  by_cases hok : okDo c p v lot day
  · obtain ⟨cc, hc, rfl⟩ := id hok.1
    by_cases hf : n cc = 24
    · refine pr_thr (k := 2) (by decide) (w_dose_2 hx (p_X6_dose_full 3 hR hk cc hc hf hok)) hst hcl he hm ?_
      obtain ⟨r, G3, h2, hs3, hq⟩ := p_X7_dose 7 hm hk (nI cc) p v lot day
      rcases hq with ⟨hb, -⟩ | ⟨-, c2, hc2, e2, hq⟩
      · exact absurd hok hb
      · obtain rfl := nI_inj (by omega) (by omega) e2
        rcases hq with ⟨-, rfl, hm3⟩ | ⟨hq, -⟩
        · exact ⟨_, G3, cn, lt, gd, h2, hs3, hm3⟩
        · omega
    · have hn : n cc < 24 := by have := (hk.1 cc hc).2; omega
      obtain ⟨r, G1, h1, rfl, hs1, hR1⟩ := p_X6_dose 3 hR hk cc hc (hcc cc hc) hn hok
      have hsc := eIn_c hc hs1
      have he1 := envO_c he hsc
      have hm1 := mdl_c hm hsc
      refine pr_fin (w_dose_0 he1.2 hx h1) (st_note hst hc hn (fun _ => by obtain ⟨q, hq, e1⟩ := hok.2.1; obtain ⟨dd, hd, e2⟩ := hok.2.2.2.2; exact ⟨q, dd, hq, by omega, e1, e2⟩) (fun q => absurd q (by decide))) (cl_note hcl hc hs1 hR1) he1 hm1 ?_
      obtain ⟨r, G3, h2, hs3, hq⟩ := p_X7_dose 7 (hm1.o o _) hk (nI cc) p v lot day
      rcases hq with ⟨hb, -⟩ | ⟨-, c2, hc2, e2, hq⟩
      · exact absurd hok hb
      · obtain rfl := nI_inj (by omega) (by omega) e2
        rcases hq with ⟨hq, -⟩ | ⟨-, rfl, hm3⟩
        · omega
        · exact ⟨G3, cn, lt, gd, h2, hs3, hm3⟩
  · refine pr_thr (k := 1) (by decide) (w_dose_1 hx (p_X6_dose_bad 3 hok)) hst hcl he hm ?_
    obtain ⟨r, G3, h2, hs3, hq⟩ := p_X7_dose 7 hm hk c p v lot day
    rcases hq with ⟨-, rfl, hm3⟩ | ⟨hb, -⟩
    · exact ⟨_, G3, cn, lt, gd, h2, hs3, hm3⟩
    · exact absurd hb hok
theorem cmd_recall {L : Nat} {xs : Nat → Int32} {t : Int32} {G : ma_G} {o : Nat → Int64} (h : INV L xs t G o) (c lot fr to : Int32) : PRi L xs G 50 [.ref 1, .int c, .int lot, .int fr, .int to, .ref 63] 108 [.ref 49, .int c, .int lot, .int fr, .int to] := by
  obtain ⟨A, n, kn, hr, dz, w, my, wr, sy, ls, cn, lt, gd, hst, hcl, hm, he⟩ := h
  obtain ⟨hk, hh, hdz, hst7, hsk, hwf, hcc⟩ := id hst
  obtain ⟨hR, hS, hSc, ⟨g0, hm0⟩, D0, sz0, k0, ld0, hc0⟩ := id hcl
  have hx := hR.1.1
  by_cases hok : okRe c lot fr to
  · obtain ⟨cc, hc, rfl⟩ := id hok.1
    by_cases hf : n cc = 24
    · refine pr_thr (k := 2) (by decide) (w_recall_2 hx (p_X6_recall_full 3 hR hk cc hc hf hok)) hst hcl he hm ?_
      obtain ⟨r, G3, h2, hs3, hq⟩ := p_X7_recall 7 hm hk (nI cc) lot fr to
      rcases hq with ⟨hb, -⟩ | ⟨-, c2, hc2, e2, hq⟩
      · exact absurd hok hb
      · obtain rfl := nI_inj (by omega) (by omega) e2
        rcases hq with ⟨-, rfl, hm3⟩ | ⟨hq, -⟩
        · exact ⟨_, G3, cn, lt, gd, h2, hs3, hm3⟩
        · omega
    · have hn : n cc < 24 := by have := (hk.1 cc hc).2; omega
      obtain ⟨r, G1, h1, rfl, hs1, hR1⟩ := p_X6_recall 3 hR hk cc hc (hcc cc hc) hn hok
      have hsc := eIn_c hc hs1
      have he1 := envO_c he hsc
      have hm1 := mdl_c hm hsc
      refine pr_fin (w_recall_0 he1.2 hx h1) (st_note hst hc hn (fun q => absurd q (by decide)) (fun q => absurd q (by decide))) (cl_note hcl hc hs1 hR1) he1 hm1 ?_
      obtain ⟨r, G3, h2, hs3, hq⟩ := p_X7_recall 7 (hm1.o o _) hk (nI cc) lot fr to
      rcases hq with ⟨hb, -⟩ | ⟨-, c2, hc2, e2, hq⟩
      · exact absurd hok hb
      · obtain rfl := nI_inj (by omega) (by omega) e2
        rcases hq with ⟨hq, -⟩ | ⟨-, rfl, hm3⟩
        · omega
        · exact ⟨G3, cn, lt, gd, h2, hs3, hm3⟩
  · refine pr_thr (k := 1) (by decide) (w_recall_1 hx (p_X6_recall_bad 3 hok)) hst hcl he hm ?_
    obtain ⟨r, G3, h2, hs3, hq⟩ := p_X7_recall 7 hm hk c lot fr to
    rcases hq with ⟨-, rfl, hm3⟩ | ⟨hb, -⟩
    · exact ⟨_, G3, cn, lt, gd, h2, hs3, hm3⟩
    · exact absurd hb hok
theorem cmd_same {L : Nat} {xs : Nat → Int32} {t : Int32} {G : ma_G} {o : Nat → Int64} (h : INV L xs t G o) (c p q : Int32) : PRi L xs G 52 [.ref 1, .int c, .int p, .int q, .ref 63] 109 [.ref 49, .int c, .int p, .int q] := by
  obtain ⟨A, n, kn, hr, dz, w, my, wr, sy, ls, cn, lt, gd, hst, hcl, hm, he⟩ := h
  obtain ⟨hk, hh, hdz, hst7, hsk, hwf, hcc⟩ := id hst
  obtain ⟨hR, hS, hSc, ⟨g0, hm0⟩, D0, sz0, k0, ld0, hc0⟩ := id hcl
  have hx := hR.1.1
  by_cases hok : okSa c p q
  · obtain ⟨cc, hc, rfl⟩ := id hok.1
    by_cases hf : n cc = 24
    · refine pr_thr (k := 2) (by decide) (w_same_2 hx (p_X6_same_full 3 hR hk cc hc hf hok)) hst hcl he hm ?_
      obtain ⟨r, G3, h2, hs3, hq⟩ := p_X7_same 7 hm hk (nI cc) p q
      rcases hq with ⟨hb, -⟩ | ⟨-, c2, hc2, e2, hq⟩
      · exact absurd hok hb
      · obtain rfl := nI_inj (by omega) (by omega) e2
        rcases hq with ⟨-, rfl, hm3⟩ | ⟨hq, -⟩
        · exact ⟨_, G3, cn, lt, gd, h2, hs3, hm3⟩
        · omega
    · have hn : n cc < 24 := by have := (hk.1 cc hc).2; omega
      obtain ⟨r, G1, h1, rfl, hs1, hR1⟩ := p_X6_same 3 hR hk cc hc (hcc cc hc) hn hok
      have hsc := eIn_c hc hs1
      have he1 := envO_c he hsc
      have hm1 := mdl_c hm hsc
      refine pr_fin (w_same_0 he1.2 hx h1) (st_note hst hc hn (fun q => absurd q (by decide)) (fun _ => by obtain ⟨p1, hp, e1⟩ := hok.2.1; obtain ⟨q1, hq, e2⟩ := hok.2.2; exact ⟨p1, q1, hp, hq, e1, e2⟩)) (cl_note hcl hc hs1 hR1) he1 hm1 ?_
      obtain ⟨r, G3, h2, hs3, hq⟩ := p_X7_same 7 (hm1.o o _) hk (nI cc) p q
      rcases hq with ⟨hb, -⟩ | ⟨-, c2, hc2, e2, hq⟩
      · exact absurd hok hb
      · obtain rfl := nI_inj (by omega) (by omega) e2
        rcases hq with ⟨hq, -⟩ | ⟨-, rfl, hm3⟩
        · omega
        · exact ⟨G3, cn, lt, gd, h2, hs3, hm3⟩
  · refine pr_thr (k := 1) (by decide) (w_same_1 hx (p_X6_same_bad 3 hok)) hst hcl he hm ?_
    obtain ⟨r, G3, h2, hs3, hq⟩ := p_X7_same 7 hm hk c p q
    rcases hq with ⟨-, rfl, hm3⟩ | ⟨hb, -⟩
    · exact ⟨_, G3, cn, lt, gd, h2, hs3, hm3⟩
    · exact absurd hb hok
theorem cmd_strike {L : Nat} {xs : Nat → Int32} {t : Int32} {G : ma_G} {o : Nat → Int64} (h : INV L xs t G o) (c i : Int32) : PRi L xs G 48 [.ref 1, .int c, .int i, .ref 63] 106 [.ref 49, .int c, .int i] := by
  obtain ⟨A, n, kn, hr, dz, w, my, wr, sy, ls, cn, lt, gd, hst, hcl, hm, he⟩ := h
  obtain ⟨hk, hh, hdz, hst7, hsk, hwf, hcc⟩ := id hst
  obtain ⟨hR, hS, hSc, ⟨g0, hm0⟩, D0, sz0, k0, ld0, hc0⟩ := id hcl
  have hx := hR.1.1
  by_cases hok : okSt A n c i
  · obtain ⟨cc, x, hc, hx0, rfl, rfl, hkd⟩ := id hok
    have hn24 := (hk.1 cc hc).2
    have key : ∀ (Gm : ma_G) {t : Int32}, mdl 49 A t cn lt gd Gm → ∃ r G3, Ca 9 106 [.ref 49, .int (nI cc), .int (nI x)] Gm (.inl r, G3, 0, 0) ∧ sm (mIn 49) Gm G3 ∧ ((strk A cc (nI x) (n cc) ∧ r = some (.int (nI 0)) ∧ mdl 49 A (nI 2) cn lt gd G3) ∨ (¬ strk A cc (nI x) (n cc) ∧ ntP 49 A cn lt gd cc (n cc) (nI 2) (nI x) (nI 0) (nI 0) (nI 0) r G3)) := by
      intro Gm t hmm
      obtain ⟨r, G3, h2, hs3, hq⟩ := p_X7_strike 7 hmm hk (nI cc) (nI x)
      rcases hq with ⟨hb, -⟩ | ⟨c2, x2, hc2, hx2, e2, e3, hk2, hq⟩
      · exact absurd hok hb
      · have := (hk.1 c2 hc2).2
        obtain rfl := nI_inj (by omega) (by omega) e2
        obtain rfl := nI_inj (by omega) (by omega) e3
        exact ⟨r, G3, h2, hs3, hq⟩
    by_cases hstr : strk A cc (nI x) (n cc)
    · refine pr_thr (k := 2) (by decide) (w_strike_2 hx (p_X6_strike_struck 3 hR hk cc hc x hx0 hkd hstr)) hst hcl he hm ?_
      obtain ⟨r, G3, h2, hs3, hq⟩ := key G hm
      rcases hq with ⟨-, rfl, hm3⟩ | ⟨hb, -⟩
      · exact ⟨_, G3, cn, lt, gd, h2, hs3, hm3⟩
      · exact absurd hstr hb
    · by_cases hf : n cc = 24
      · refine pr_thr (k := 2) (by decide) (w_strike_2 hx (p_X6_strike_full 3 hR hk cc hc x hx0 hkd hstr hf)) hst hcl he hm ?_
        obtain ⟨r, G3, h2, hs3, hq⟩ := key G hm
        rcases hq with ⟨hb, -⟩ | ⟨-, ⟨-, rfl, hm3⟩ | ⟨hq, -⟩⟩
        · exact absurd hb hstr
        · exact ⟨_, G3, cn, lt, gd, h2, hs3, hm3⟩
        · omega
      · have hn : n cc < 24 := by omega
        obtain ⟨r, G1, h1, rfl, hs1, hR1⟩ := p_X6_strike_ok 3 hR hk cc hc x hx0 hkd hstr (hcc cc hc) hn
        have hsc := eIn_c hc hs1
        have he1 := envO_c he hsc
        have hm1 := mdl_c hm hsc
        refine pr_fin (w_strike_0 he1.2 hx h1) (st_note hst hc hn (fun q => absurd q (by decide)) (fun q => absurd q (by decide))) (cl_note hcl hc hs1 hR1) he1 hm1 ?_
        obtain ⟨r, G3, h2, hs3, hq⟩ := key _ (hm1.o o _)
        rcases hq with ⟨hb, -⟩ | ⟨-, ⟨hq, -⟩ | ⟨-, rfl, hm3⟩⟩
        · exact absurd hb hstr
        · omega
        · exact ⟨G3, cn, lt, gd, h2, hs3, hm3⟩
  · refine pr_thr (k := 1) (by decide) (w_strike_1 hx (p_X6_strike_bad 3 hR hk hok)) hst hcl he hm ?_
    obtain ⟨r, G3, h2, hs3, hq⟩ := p_X7_strike 7 hm hk c i
    rcases hq with ⟨-, rfl, hm3⟩ | ⟨c2, x2, h3, h4, h5, h6, h7, -⟩
    · exact ⟨_, G3, cn, lt, gd, h2, hs3, hm3⟩
    · exact absurd ⟨c2, x2, h3, h4, h5, h6, h7⟩ hok
theorem cmd_stick {L : Nat} {xs : Nat → Int32} {t : Int32} {G : ma_G} {o : Nat → Int64} (h : INV L xs t G o) (s x : Int32) : PRr L xs G 7 [.ref 1, .int s, .int x] 115 [.ref 49, .int s, .int x] := by
  obtain ⟨A, n, kn, hr, dz, w, my, wr, sy, ls, cn, lt, gd, hst, hcl, hm, he⟩ := h
  obtain ⟨hk, hh, hdz, hst7, hsk, hwf, hcc⟩ := id hst
  obtain ⟨hR, hS, hSc, ⟨g0, hm0⟩, D0, sz0, k0, ld0, hc0⟩ := id hcl
  have hx := hR.1.1
  obtain ⟨r, G1, h1, rfl, v, rfl, hv⟩ := p_X6_stick 6 hR.1 hS hst7 (fun s hs => (hsk s hs).2.1) s x
  refine pr_rd h1 hst hcl he hm ?_
  obtain ⟨r2, G3, h2, hs3, hm3, v2, rfl, hv2⟩ := p_X7_stick 7 hm hst7 s x
  obtain rfl := stP_one hv hv2
  exact ⟨G3, nI 0, cn, lt, gd, h2, hs3, hm3⟩
theorem cmd_known {L : Nat} {xs : Nat → Int32} {t : Int32} {G : ma_G} {o : Nat → Int64} (h : INV L xs t G o) (c e : Int32) : PRr L xs G 12 [.ref 1, .int c, .int e] 116 [.ref 49, .int c, .int e] := by
  obtain ⟨A, n, kn, hr, dz, w, my, wr, sy, ls, cn, lt, gd, hst, hcl, hm, he⟩ := h
  obtain ⟨hk, hh, hdz, hst7, hsk, hwf, hcc⟩ := id hst
  obtain ⟨hR, hS, hSc, ⟨g0, hm0⟩, D0, sz0, k0, ld0, hc0⟩ := id hcl
  have hx := hR.1.1
  obtain ⟨r, G1, h1, rfl, v, rfl, hv⟩ := p_X6_known 6 hR hk c e
  refine pr_rd h1 hst hcl he hm ?_
  obtain ⟨r2, G3, h2, hs3, hm3, v2, rfl, hv2⟩ := p_X7_known 7 hm c e
  obtain rfl := knP_one hv hv2
  exact ⟨G3, nI 0, cn, lt, gd, h2, hs3, hm3⟩
theorem cmd_heard {L : Nat} {xs : Nat → Int32} {t : Int32} {G : ma_G} {o : Nat → Int64} (h : INV L xs t G o) (c b e : Int32) : PRr L xs G 15 [.ref 1, .int c, .int b, .int e] 117 [.ref 49, .int c, .int b, .int e] := by
  obtain ⟨A, n, kn, hr, dz, w, my, wr, sy, ls, cn, lt, gd, hst, hcl, hm, he⟩ := h
  obtain ⟨hk, hh, hdz, hst7, hsk, hwf, hcc⟩ := id hst
  obtain ⟨hR, hS, hSc, ⟨g0, hm0⟩, D0, sz0, k0, ld0, hc0⟩ := id hcl
  have hx := hR.1.1
  obtain ⟨r, G1, h1, rfl, v, rfl, hv⟩ := p_X6_heard 6 hR hk hh c b e
  refine pr_rd h1 hst hcl he hm ?_
  obtain ⟨r2, G3, h2, hs3, hm3, v2, rfl, hv2⟩ := p_X7_heard 7 hm c b e
  obtain rfl := heP_one hv hv2
  exact ⟨G3, nI 0, cn, lt, gd, h2, hs3, hm3⟩
theorem cmd_entry {L : Nat} {xs : Nat → Int32} {t : Int32} {G : ma_G} {o : Nat → Int64} (h : INV L xs t G o) (c e i y : Int32) : PRr L xs G 17 [.ref 1, .int c, .int e, .int i, .int y] 118 [.ref 49, .int c, .int e, .int i, .int y] := by
  obtain ⟨A, n, kn, hr, dz, w, my, wr, sy, ls, cn, lt, gd, hst, hcl, hm, he⟩ := h
  obtain ⟨hk, hh, hdz, hst7, hsk, hwf, hcc⟩ := id hst
  obtain ⟨hR, hS, hSc, ⟨g0, hm0⟩, D0, sz0, k0, ld0, hc0⟩ := id hcl
  have hx := hR.1.1
  obtain ⟨r, G1, h1, rfl, v, rfl, hv⟩ := p_X6_entry 6 hR hk c e i y
  refine pr_rd h1 hst hcl he hm ?_
  obtain ⟨r2, G3, h2, hs3, hm3, v2, rfl, hv2⟩ := p_X7_entry 7 hm hk c e i y
  obtain rfl := enP_one hk hv hv2
  exact ⟨G3, nI 0, cn, lt, gd, h2, hs3, hm3⟩
theorem cmd_lotList {L : Nat} {xs : Nat → Int32} {t : Int32} {G : ma_G} {o : Nat → Int64} (h : INV L xs t G o) (c lot i : Int32) : PRr L xs G 20 [.ref 1, .int c, .int lot, .int i] 130 [.ref 49, .int c, .int lot, .int i] := by
  obtain ⟨A, n, kn, hr, dz, w, my, wr, sy, ls, cn, lt, gd, hst, hcl, hm, he⟩ := h
  obtain ⟨hk, hh, hdz, hst7, hsk, hwf, hcc⟩ := id hst
  obtain ⟨hR, hS, hSc, ⟨g0, hm0⟩, D0, sz0, k0, ld0, hc0⟩ := id hcl
  have hx := hR.1.1
  obtain ⟨r, G1, h1, rfl, v, rfl, hv⟩ := p_X6_lotList 5 hR hk c lot i
  refine pr_rd h1 hst hcl he hm ?_
  obtain ⟨r2, G3, h2, hs3, hm3, v2, rfl, hv2⟩ := p_X7_lotList 7 hm hk c lot i
  obtain rfl := llP_one hv hv2
  exact ⟨G3, nI 0, cn, lt, gd, h2, hs3, hm3⟩
