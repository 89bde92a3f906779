/-! judgements, names, sums -/
theorem nIn_c {G G' : ma_G} (h : sm nIn G G') : sm cIn G G' := h.mono (fun a h => ⟨by have := h.1; omega, by have := h.2; omega⟩)
theorem cl_nm {A : Nat → Nat → Int32} {n : Nat → Nat} {kn : Nat → Nat → Nat} {hr : Nat → Nat → Nat → Nat} {dz w my wr : Nat → Nat} {sy : Nat → Nat → Nat} {ls : Nat → List Nat} {G G' : ma_G} (hcl : clOK A n kn hr dz w my wr sy ls G) (hs : sm nIn G G') (h4 : ∃ g, nmp G' 45 g) (h5 : ∃ D sz k ld, co G' 47 D sz k ld) : clOK A n kn hr dz w my wr sy ls G' := by
  obtain ⟨hR, hS, hSc, -, -⟩ := hcl
  exact ⟨hR.sm hs (fun a h1 h2 q => absurd q.1 (by omega)), hS.sm hs (fun a h1 h2 q => absurd q.1 (by omega)), hSc.sm hs (fun a h1 h2 q => absurd q.1 (by omega)), h4, h5⟩
theorem cmd_counting {L : Nat} {xs : Nat → Int32} {t : Int32} {G : ma_G} {o : Nat → Int64} (h : INV L xs t G o) (c p v : Int32) : PRi L xs G 73 [.ref 1, .int c, .int p, .int v, .ref 63] 119 [.ref 49, .int c, .int p, .int v] := by
  obtain ⟨A, n, kn, hr, dz, w, my, wr, sy, ls, cn, lt, gd, hst, hcl, hm, he⟩ := h
  obtain ⟨hk, hh, hdz, hst7, hsk, hwf, hcc⟩ := id hst
  obtain ⟨hR, hS, hSc, ⟨g0, hm0⟩, D0, sz0, k0, ld0, hc0⟩ := id hcl
  have hx := hR.1.1
  by_cases hok : okMy c p v
  · obtain ⟨⟨cc, hc, rfl⟩, ⟨pp, hp, rfl⟩, ⟨vv, hv, rfl⟩⟩ := id hok
    obtain ⟨r, G1, h1, hs1, hn1, hc1, f, k, l, hj, rfl⟩ := p_X6_counting 1 hR hk hSc hdz hm0 hc0 cc hc (hwf.d hk hc) (hwf.s hk hc) pp hp vv hv
    have hsc := nIn_c hs1
    have he1 := envO_c he hsc
    have hm1 := mdl_c hm hsc
    obtain ⟨r, G3, h2, hs3, hq⟩ := p_X7_counting 3 (hm1.o o _) hk hdz (fun c hc => hwf.d hk hc) (fun c hc => hwf.s hk hc) (nI cc) (nI pp) (nI vv)
    rcases hq with ⟨hb, -⟩ | ⟨c2, p2, v2, f2, g, k2, l2, hc2, hp2, hv2, e1, e2, e3, rfl, hj2, hm3⟩
    · exact absurd hok hb
    · obtain rfl := nI_inj (by omega) (by omega) e1
      obtain rfl := nI_inj (by omega) (by omega) e2
      obtain rfl := nI_inj (by omega) (by omega) e3
      obtain ⟨-, rfl, rfl⟩ := jd_one hp hj hj2
      exact pr_fin (A := va_up A 12 g) (n := n) (kn := kn) (hr := hr) (dz := dz) (w := w) (my := my) (wr := wr) (sy := sy) (ls := ls) (w_counting_0 he1.2 hx h1) hst (cl_nm hcl hs1 hn1 hc1) he1 hm1 ⟨G3, _, _, _, h2, hs3, hm3⟩
  · refine pr_thr (k := 1) (by decide) (w_counting_1 hx (p_X6_counting_bad 2 hok)) hst hcl he hm ?_
    obtain ⟨r, G3, h2, hs3, hq⟩ := p_X7_counting 3 hm hk hdz (fun c hc => hwf.d hk hc) (fun c hc => hwf.s hk hc) c p v
    rcases hq with ⟨-, rfl, hm3⟩ | ⟨c2, p2, v2, f2, g, k2, l2, hc2, hp2, hv2, rfl, rfl, rfl, -⟩
    · exact ⟨_, G3, cn, lt, gd, h2, hs3, hm3⟩
    · exact absurd ⟨⟨c2, hc2, rfl⟩, ⟨p2, hp2, rfl⟩, ⟨v2, hv2, rfl⟩⟩ hok
theorem cmd_protectedDay {L : Nat} {xs : Nat → Int32} {t : Int32} {G : ma_G} {o : Nat → Int64} (h : INV L xs t G o) (c p v : Int32) : PRi L xs G 88 [.ref 1, .int c, .int p, .int v, .ref 63] 127 [.ref 49, .int c, .int p, .int v] := by
  obtain ⟨A, n, kn, hr, dz, w, my, wr, sy, ls, cn, lt, gd, hst, hcl, hm, he⟩ := h
  obtain ⟨hk, hh, hdz, hst7, hsk, hwf, hcc⟩ := id hst
  obtain ⟨hR, hS, hSc, ⟨g0, hm0⟩, D0, sz0, k0, ld0, hc0⟩ := id hcl
  have hx := hR.1.1
  by_cases hok : okMy c p v
  · obtain ⟨⟨cc, hc, rfl⟩, ⟨pp, hp, rfl⟩, ⟨vv, hv, rfl⟩⟩ := id hok
    obtain ⟨r, G1, h1, hs1, hn1, hc1, f, k, l, hj, rfl⟩ := p_X6_protectedDay 1 hR hk hSc hdz hm0 hc0 cc hc (hwf.d hk hc) (hwf.s hk hc) pp hp vv hv
    have hsc := nIn_c hs1
    have he1 := envO_c he hsc
    have hm1 := mdl_c hm hsc
    obtain ⟨r, G3, h2, hs3, hq⟩ := p_X7_protectedDay 3 (hm1.o o _) hk hdz (fun c hc => hwf.d hk hc) (fun c hc => hwf.s hk hc) (nI cc) (nI pp) (nI vv)
    rcases hq with ⟨hb, -⟩ | ⟨c2, p2, v2, f2, g, k2, l2, hc2, hp2, hv2, e1, e2, e3, rfl, hj2, hm3⟩
    · exact absurd hok hb
    · obtain rfl := nI_inj (by omega) (by omega) e1
      obtain rfl := nI_inj (by omega) (by omega) e2
      obtain rfl := nI_inj (by omega) (by omega) e3
      obtain ⟨-, rfl, rfl⟩ := jd_one hp hj hj2
      exact pr_fin (A := va_up A 12 g) (n := n) (kn := kn) (hr := hr) (dz := dz) (w := w) (my := my) (wr := wr) (sy := sy) (ls := ls) (w_protectedDay_0 he1.2 hx h1) hst (cl_nm hcl hs1 hn1 hc1) he1 hm1 ⟨G3, _, _, _, h2, hs3, hm3⟩
  · refine pr_thr (k := 1) (by decide) (w_protectedDay_1 hx (p_X6_protectedDay_bad 2 hok)) hst hcl he hm ?_
    obtain ⟨r, G3, h2, hs3, hq⟩ := p_X7_protectedDay 3 hm hk hdz (fun c hc => hwf.d hk hc) (fun c hc => hwf.s hk hc) c p v
    rcases hq with ⟨-, rfl, hm3⟩ | ⟨c2, p2, v2, f2, g, k2, l2, hc2, hp2, hv2, rfl, rfl, rfl, -⟩
    · exact ⟨_, G3, cn, lt, gd, h2, hs3, hm3⟩
    · exact absurd ⟨⟨c2, hc2, rfl⟩, ⟨p2, hp2, rfl⟩, ⟨v2, hv2, rfl⟩⟩ hok
theorem cmd_due {L : Nat} {xs : Nat → Int32} {t : Int32} {G : ma_G} {o : Nat → Int64} (h : INV L xs t G o) (c p v : Int32) : PRi L xs G 91 [.ref 1, .int c, .int p, .int v, .ref 63] 128 [.ref 49, .int c, .int p, .int v] := by
  obtain ⟨A, n, kn, hr, dz, w, my, wr, sy, ls, cn, lt, gd, hst, hcl, hm, he⟩ := h
  obtain ⟨hk, hh, hdz, hst7, hsk, hwf, hcc⟩ := id hst
  obtain ⟨hR, hS, hSc, ⟨g0, hm0⟩, D0, sz0, k0, ld0, hc0⟩ := id hcl
  have hx := hR.1.1
  by_cases hok : okMy c p v
  · obtain ⟨⟨cc, hc, rfl⟩, ⟨pp, hp, rfl⟩, ⟨vv, hv, rfl⟩⟩ := id hok
    obtain ⟨r, G1, h1, hs1, hn1, hc1, f, k, l, hj, rfl⟩ := p_X6_due 1 hR hk hSc hdz hm0 hc0 cc hc (hwf.d hk hc) (hwf.s hk hc) pp hp vv hv
    have hsc := nIn_c hs1
    have he1 := envO_c he hsc
    have hm1 := mdl_c hm hsc
    obtain ⟨r, G3, h2, hs3, hq⟩ := p_X7_due 3 (hm1.o o _) hk hdz (fun c hc => hwf.d hk hc) (fun c hc => hwf.s hk hc) (nI cc) (nI pp) (nI vv)
    rcases hq with ⟨hb, -⟩ | ⟨c2, p2, v2, f2, g, k2, l2, hc2, hp2, hv2, e1, e2, e3, rfl, hj2, hm3⟩
    · exact absurd hok hb
    · obtain rfl := nI_inj (by omega) (by omega) e1
      obtain rfl := nI_inj (by omega) (by omega) e2
      obtain rfl := nI_inj (by omega) (by omega) e3
      obtain ⟨-, rfl, rfl⟩ := jd_one hp hj hj2
      exact pr_fin (A := va_up A 12 g) (n := n) (kn := kn) (hr := hr) (dz := dz) (w := w) (my := my) (wr := wr) (sy := sy) (ls := ls) (w_due_0 he1.2 hx h1) hst (cl_nm hcl hs1 hn1 hc1) he1 hm1 ⟨G3, _, _, _, h2, hs3, hm3⟩
  · refine pr_thr (k := 1) (by decide) (w_due_1 hx (p_X6_due_bad 2 hok)) hst hcl he hm ?_
    obtain ⟨r, G3, h2, hs3, hq⟩ := p_X7_due 3 hm hk hdz (fun c hc => hwf.d hk hc) (fun c hc => hwf.s hk hc) c p v
    rcases hq with ⟨-, rfl, hm3⟩ | ⟨c2, p2, v2, f2, g, k2, l2, hc2, hp2, hv2, rfl, rfl, rfl, -⟩
    · exact ⟨_, G3, cn, lt, gd, h2, hs3, hm3⟩
    · exact absurd ⟨⟨c2, hc2, rfl⟩, ⟨p2, hp2, rfl⟩, ⟨v2, hv2, rfl⟩⟩ hok
theorem cmd_coverage {L : Nat} {xs : Nat → Int32} {t : Int32} {G : ma_G} {o : Nat → Int64} (h : INV L xs t G o) (c v day : Int32) : PRi L xs G 94 [.ref 1, .int c, .int v, .int day, .ref 63] 129 [.ref 49, .int c, .int v, .int day] := by
  obtain ⟨A, n, kn, hr, dz, w, my, wr, sy, ls, cn, lt, gd, hst, hcl, hm, he⟩ := h
  obtain ⟨hk, hh, hdz, hst7, hsk, hwf, hcc⟩ := id hst
  obtain ⟨hR, hS, hSc, ⟨g0, hm0⟩, D0, sz0, k0, ld0, hc0⟩ := id hcl
  have hx := hR.1.1
  by_cases hok : inN c 4 ∧ inN v 3
  · obtain ⟨⟨cc, hc, rfl⟩, ⟨vv, hv, rfl⟩⟩ := id hok
    obtain ⟨r, G1, h1, hs1, hn1, hc1, rfl⟩ := p_X6_coverage 1 hR hk hSc hdz hm0 hc0 cc hc (hwf.d hk hc) (hwf.s hk hc) vv hv day
    have hsc := nIn_c hs1
    have he1 := envO_c he hsc
    have hm1 := mdl_c hm hsc
    obtain ⟨r, G3, h2, hs3, g, t3, cn3, lt3, gd3, hm3, hq⟩ := p_X7_coverage 4 (hm1.o o _) hk hdz (fun c hc => hwf.d hk hc) (fun c hc => hwf.s hk hc) (nI cc) (nI vv) day
    rcases hq with ⟨hb, -⟩ | ⟨c2, v2, hc2, hv2, e1, e2, rfl, rfl⟩
    · exact absurd hok hb
    · obtain rfl := nI_inj (by omega) (by omega) e1
      obtain rfl := nI_inj (by omega) (by omega) e2
      exact pr_fin (A := va_up A 12 g) (n := n) (kn := kn) (hr := hr) (dz := dz) (w := w) (my := my) (wr := wr) (sy := sy) (ls := ls) (w_coverage_0 he1.2 hx h1) hst (cl_nm hcl hs1 hn1 hc1) he1 hm1 ⟨G3, _, _, _, h2, hs3, hm3⟩
  · obtain ⟨r, G3, h2, hs3, g, t3, cn3, lt3, gd3, hm3, hq⟩ := p_X7_coverage 4 hm hk hdz (fun c hc => hwf.d hk hc) (fun c hc => hwf.s hk hc) c v day
    rcases hq with ⟨-, rfl, rfl⟩ | ⟨c2, v2, hc2, hv2, rfl, rfl, -⟩
    · exact pr_thr (A := va_up A 12 g) (n := n) (kn := kn) (hr := hr) (dz := dz) (w := w) (my := my) (wr := wr) (sy := sy) (ls := ls) (k := 1) (by decide) (w_coverage_1 hx (p_X6_coverage_bad 3 hok)) hst hcl he hm ⟨_, G3, _, _, _, h2, hs3, hm3⟩
    · exact absurd ⟨⟨c2, hc2, rfl⟩, ⟨v2, hv2, rfl⟩⟩ hok
theorem cmd_sum {L : Nat} {xs : Nat → Int32} {t : Int32} {G : ma_G} {o : Nat → Int64} (h : INV L xs t G o) (c : Int32) : PRl L xs G 97 [.ref 1, .int c, .ref 63] 132 [.ref 49, .int c] := by
  obtain ⟨A, n, kn, hr, dz, w, my, wr, sy, ls, cn, lt, gd, hst, hcl, hm, he⟩ := h
  obtain ⟨hk, hh, hdz, hst7, hsk, hwf, hcc⟩ := id hst
  obtain ⟨hR, hS, hSc, ⟨g0, hm0⟩, D0, sz0, k0, ld0, hc0⟩ := id hcl
  have hx := hR.1.1
  by_cases hok : inN c 4
  · obtain ⟨cc, hc, rfl⟩ := id hok
    have h1 := p_X6_sum 5 hR hk cc hc
    obtain ⟨r, G3, h2, hs3, hq⟩ := p_X7_sum 7 (hm.o o (sumK A kn cc 96)) hk (nI cc)
    rcases hq with ⟨hb, -⟩ | ⟨c2, hc2, e1, rfl, hm3⟩
    · exact absurd hok hb
    · obtain rfl := nI_inj (by omega) (by omega) e1
      exact ⟨nI 0, _, _, 0, 0, G3, _, Nat.zero_le _, Nat.zero_le _, w_sum_0 he.2 hx h1, mid_of (hm.o o _) (he.o _), h2, ⟨A, n, kn, hr, dz, w, my, wr, sy, ls, _, _, _, hst, clOK_m (hcl.o o _) hs3, hm3, envO_m (he.o _) hs3⟩, fun _ => pk_uLs⟩
  · obtain ⟨r, G3, h2, hs3, hq⟩ := p_X7_sum 7 hm hk c
    rcases hq with ⟨-, rfl, hm3⟩ | ⟨c2, hc2, rfl, -⟩
    · exact ⟨nI 1, _, G, 1, 6, G3, o, Nat.le_refl 1, Nat.le_refl 6, w_sum_1 hx (p_X6_sum_bad 3 hok), mid_of hm he, h2, ⟨A, n, kn, hr, dz, w, my, wr, sy, ls, _, _, _, hst, clOK_m hcl hs3, hm3, envO_m he hs3⟩, fun q => absurd q (by decide)⟩
    · exact absurd ⟨c2, hc2, rfl⟩ hok
theorem cmd_whoIs {L : Nat} {xs : Nat → Int32} {t : Int32} {G : ma_G} {o : Nat → Int64} (h : INV L xs t G o) (c p : Int32) : PRr L xs G 25 [.ref 1, .int c, .int p] 131 [.ref 49, .int c, .int p] := by
  obtain ⟨A, n, kn, hr, dz, w, my, wr, sy, ls, cn, lt, gd, hst, hcl, hm, he⟩ := h
  obtain ⟨hk, hh, hdz, hst7, hsk, hwf, hcc⟩ := id hst
  obtain ⟨hR, hS, hSc, ⟨g0, hm0⟩, D0, sz0, k0, ld0, hc0⟩ := id hcl
  have hx := hR.1.1
  obtain ⟨r, G1, h1, hs1, hn1, hq1⟩ := p_X6_whoIs 4 hR hk hm0 (fun c hc => hwf.s hk hc) c p
  have hsn := sm46 hs1
  have hsc := nIn_c hsn
  have he1 := envO_c he hsc
  have hm1 := mdl_c hm hsc
  have hcl1 := cl_nm hcl hsn hn1 ⟨D0, sz0, k0, ld0, hc0.sm hs1 (fun q => by omega) (fun q => by omega)⟩
  obtain ⟨r2, G3, h2, hs3, ⟨g, hm3⟩, hq2⟩ := p_X7_whoIs 7 hm1 hk (fun c hc => hwf.s hk hc) c p
  rcases hq1 with ⟨hb, rfl⟩ | ⟨cc, pp, f, hc, hp, rfl, rfl, hf, rfl⟩
  · rcases hq2 with ⟨-, rfl⟩ | ⟨cc, pp, f, hc, hp, rfl, rfl, hf, rfl⟩
    · exact pr_rd (A := va_up A 12 g) (n := n) (kn := kn) (hr := hr) (dz := dz) (w := w) (my := my) (wr := wr) (sy := sy) (ls := ls) h1 hst hcl1 he1 hm1 ⟨G3, _, _, _, _, h2, hs3, hm3⟩
    · exact absurd ⟨⟨cc, hc, rfl⟩, ⟨pp, hp, rfl⟩⟩ hb
  · rcases hq2 with ⟨hb, -⟩ | ⟨c2, p2, f2, hc2, hp2, e1, e2, hf2, rfl⟩
    · exact absurd ⟨⟨cc, hc, rfl⟩, ⟨pp, hp, rfl⟩⟩ hb
    · obtain rfl := nI_inj (by omega) (by omega) e1
      obtain rfl := nI_inj (by omega) (by omega) e2
      rw [← isNm_one hf hf2 pp hp] at h2
      exact pr_rd (A := va_up A 12 g) (n := n) (kn := kn) (hr := hr) (dz := dz) (w := w) (my := my) (wr := wr) (sy := sy) (ls := ls) h1 hst hcl1 he1 hm1 ⟨G3, _, _, _, _, h2, hs3, hm3⟩
theorem zN {z : Int32} (h1 : ¬ z < nI 1) (h4 : ¬ nI 4 < z) : ∃ m, 1 ≤ m ∧ m ≤ 4 ∧ z = nI m := by
  have h0 : ¬ z < 0 := fun q => h1 (by
    rw [Int32.lt_iff_toInt_lt] at q ⊢
    have e0 : (0 : Int32).toInt = 0 := rfl
    have e1 : (nI 1).toInt = 1 := rfl
    omega)
  obtain ⟨m, hm, rfl⟩ := nI_of h0
  refine ⟨m, ?_, ?_, rfl⟩
  · by_cases q : 1 ≤ m
    · exact q
    · exact absurd (nI_lt (show m < 1 by omega) (by decide)) h1
  · by_cases q : m ≤ 4
    · exact q
    · exact absurd (nI_lt (show 4 < m by omega) hm) h4
theorem st_sch {A : Nat → Nat → Int32} {n : Nat → Nat} {kn : Nat → Nat → Nat} {hr : Nat → Nat → Nat → Nat} {dz w my wr : Nat → Nat} {sy : Nat → Nat → Nat} {ls : Nat → List Nat} {p m : Nat} {g1 g2 g3 : Int32} (hst : stOK A n kn hr dz w my wr sy ls) (h1 : 1 ≤ m) (h4 : m ≤ 4) : stOK (scA A p (nI m) g1 g2 g3) n kn hr (wup dz p m) w my wr sy ls := by
  obtain ⟨hk, hh, hdz, hst7, hsk, hwf, hcc⟩ := hst
  refine ⟨hk, hh, fun v hv => ?_, hst7, hsk, hwf, hcc⟩
  show upd (A 0) p (nI m) v = _ ∧ _
  by_cases e : v = p
  · rw [e, pk_us, wup_y]; exact ⟨rfl, h1, h4⟩
  · rw [pk_un e, wup_n e]; exact hdz v hv
theorem sc_sch {A : Nat → Nat → Int32} {dz : Nat → Nat} {p m : Nat} {g1 g2 g3 : Int32} {G G' : ma_G} (h : cSc A dz G) (hp : p < 3) (hs : sm (fun x => x = 3 + p) G G') (ho : ma_obj G' (3 + p) 4 = some [.int (nI m), .int g1, .int g2, .int g3]) : cSc (scA A p (nI m) g1 g2 g3) (wup dz p m) G' := by
  intro v hv
  have e1 : ∀ x, scA A p (nI m) g1 g2 g3 1 x = upd (upd (upd (A 1) (4 * p + 1) g1) (4 * p + 2) g2) (4 * p + 3) g3 x := fun x => rfl
  unfold sc
  by_cases e : v = p
  · subst e
    rw [wup_y]
    dsimp only
    rw [e1, e1, e1, pk_us, pk_un (show 4 * v + 1 ≠ 4 * v + 3 by omega), pk_un (show 4 * v + 1 ≠ 4 * v + 2 by omega), pk_us, pk_un (show 4 * v + 2 ≠ 4 * v + 3 by omega), pk_us]
    exact ho
  · rw [wup_n e]
    dsimp only
    rw [e1, e1, e1, pk_un (by omega), pk_un (by omega), pk_un (by omega), pk_un (by omega), pk_un (by omega), pk_un (by omega), pk_un (by omega), pk_un (by omega), pk_un (by omega), hs.obj (by omega)]
    exact h v hv
theorem cmd_schedule {L : Nat} {xs : Nat → Int32} {t : Int32} {G : ma_G} {o : Nat → Int64} (h : INV L xs t G o) (v z g1 g2 g3 : Int32) : PRv L xs G 31 [.ref 1, .int v, .int z, .int g1, .int g2, .int g3] 102 [.ref 49, .int v, .int z, .int g1, .int g2, .int g3] := by
  obtain ⟨A, n, kn, hr, dz, w, my, wr, sy, ls, cn, lt, gd, hst, hcl, hm, he⟩ := h
  obtain ⟨hk, hh, hdz, hst7, hsk, hwf, hcc⟩ := id hst
  obtain ⟨hR, hS, hSc, ⟨g0, hm0⟩, D0, sz0, k0, ld0, hc0⟩ := id hcl
  have hx := hR.1.1
  by_cases hok : okSc v z g1 g2 g3
  · obtain ⟨p, hp, rfl⟩ := id hok.1.1
    by_cases ha : anyN n
    · obtain ⟨r, G3, h2, hs3, rfl, hq⟩ := p_X7_schedule 7 hm hk (nI p) z g1 g2 g3
      rcases hq with ⟨hb, -⟩ | ⟨-, -, hm3⟩ | ⟨-, hb, -⟩
      · exact absurd hok hb
      · exact ⟨nI 2, G, 1, 6, G3, o, Nat.le_refl 1, Nat.le_refl 6, w_schedule_2 hx (p_X6_schedule_any 3 hR hk hp hok ha), mid_of hm he, h2, ⟨A, n, kn, hr, dz, w, my, wr, sy, ls, _, _, _, hst, clOK_m hcl hs3, hm3, envO_m he hs3⟩⟩
      · exact absurd ha hb
    · obtain ⟨m, hm1, hm4, rfl⟩ := zN hok.1.2.1 hok.1.2.2
      obtain ⟨r, G1, h1, rfl, hs1, ho1⟩ := p_X6_schedule_ok 3 hR hk hSc hp hok ha
      have hsc : sm cIn G G1 := hs1.mono (fun a h => ⟨by omega, by omega⟩)
      have he1 := envO_c he hsc
      have hmm := mdl_c hm hsc
      have hcl1 : clOK (scA A p (nI m) g1 g2 g3) n kn hr (wup dz p m) w my wr sy ls G1 := ⟨⟨hR.1.sm hs1 (by omega) (by omega) (by omega) (by omega) (by omega), hR.2.1.sm hs1 (fun a h1 h2 q => by omega), hR.2.2.sm hs1 (fun a h1 h2 q => by omega)⟩, hS.sm hs1 (fun a h1 h2 q => by omega), sc_sch hSc hp hs1 ho1, ⟨g0, hm0.sm hs1 (by omega) (by omega)⟩, D0, sz0, k0, ld0, hc0.sm hs1 (by omega) (by omega)⟩
      obtain ⟨r, G3, h2, hs3, rfl, hq⟩ := p_X7_schedule 7 hmm hk (nI p) (nI m) g1 g2 g3
      rcases hq with ⟨hb, -⟩ | ⟨-, hb, -⟩ | ⟨-, -, p2, hp2, e2, hm3⟩
      · exact absurd hok hb
      · exact absurd hb ha
      · obtain rfl := nI_inj (by omega) (by omega) e2
        exact ⟨nI 0, G1, 0, 0, G3, o, Nat.zero_le _, Nat.zero_le _, w_schedule_0 hx h1, mid_of hmm he1, h2, ⟨_, n, kn, hr, _, w, my, wr, sy, ls, _, _, _, st_sch hst hm1 hm4, clOK_m hcl1 hs3, hm3, envO_m he1 hs3⟩⟩
  · obtain ⟨r, G3, h2, hs3, rfl, hq⟩ := p_X7_schedule 7 hm hk v z g1 g2 g3
    rcases hq with ⟨-, hm3⟩ | ⟨hb, -⟩ | ⟨hb, -⟩
    · exact ⟨nI 1, G, 1, 6, G3, o, Nat.le_refl 1, Nat.le_refl 6, w_schedule_1 hx (p_X6_schedule_bad 3 hok), mid_of hm he, h2, ⟨A, n, kn, hr, dz, w, my, wr, sy, ls, _, _, _, hst, clOK_m hcl hs3, hm3, envO_m he hs3⟩⟩
    · exact absurd hb hok
    · exact absurd hb hok
