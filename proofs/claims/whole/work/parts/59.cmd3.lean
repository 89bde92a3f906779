/-! sticks -/
theorem sIn_c {p : Nat} (hp : p < 3) {G G' : ma_G} (h : sm (sIn (33 + 4 * p)) G G') : sm cIn G G' := h.mono (fun a h => ⟨by have := h.1; omega, by have := h.2; omega⟩)
theorem cl_stk {A : Nat → Nat → Int32} {n : Nat → Nat} {kn : Nat → Nat → Nat} {hr : Nat → Nat → Nat → Nat} {dz w my wr : Nat → Nat} {sy : Nat → Nat → Nat} {ls : Nat → List Nat} {w' my' wr' : Nat → Nat} {sy' : Nat → Nat → Nat} {ls' : Nat → List Nat} {p : Nat} {G G' : ma_G} (hcl : clOK A n kn hr dz w my wr sy ls G) (hp : p < 3) (hs : sm (sIn (33 + 4 * p)) G G') (hS : cSt w' my' wr' sy' ls' G') : clOK A n kn hr dz w' my' wr' sy' ls' G' := by
  obtain ⟨hR, -, hSc, ⟨g, h4⟩, D, sz, k, ld, h5⟩ := hcl
  exact ⟨hR.sm hs (fun a h1 h2 q => absurd q.1 (by omega)), hS, hSc.sm hs (fun a h1 h2 q => absurd q.1 (by omega)), ⟨g, h4.sm hs (fun q => absurd q.2 (by omega)) (fun q => absurd q.2 (by omega))⟩, D, sz, k, ld, h5.sm hs (fun q => absurd q.2 (by omega)) (fun q => absurd q.2 (by omega))⟩
theorem st_tear {A : Nat → Nat → Int32} {n : Nat → Nat} {kn : Nat → Nat → Nat} {hr : Nat → Nat → Nat → Nat} {dz w my wr : Nat → Nat} {sy : Nat → Nat → Nat} {ls : Nat → List Nat} {p x : Nat} (hst : stOK A n kn hr dz w my wr sy ls) (hx : x ≤ w p) (hp : p < 3) : stOK (va_up A 7 (upd (A 7) p (nI x))) n kn hr dz (wup w p x) my wr sy ls := by
  obtain ⟨hk, hh, hdz, hst7, hsk, hwf, hcc⟩ := hst
  refine ⟨hk, hh, hdz, fun s hs => ?_, hsk, hwf, hcc⟩
  show upd (A 7) p (nI x) s = _ ∧ _
  have h0 := hst7 s hs
  by_cases e : s = p
  · subst e; rw [pk_us, wup_y]; exact ⟨rfl, by omega, h0.2.2⟩
  · rw [pk_un e, wup_n e]; exact h0
theorem cmd_tear {L : Nat} {xs : Nat → Int32} {t : Int32} {G : ma_G} {o : Nat → Int64} (h : INV L xs t G o) (s x : Int32) : PRi L xs G 62 [.ref 1, .int s, .int x, .ref 63] 112 [.ref 49, .int s, .int x] := by
  obtain ⟨A, n, kn, hr, dz, w, my, wr, sy, ls, cn, lt, gd, hst, hcl, hm, he⟩ := h
  obtain ⟨hk, hh, hdz, hst7, hsk, hwf, hcc⟩ := id hst
  obtain ⟨hR, hS, hSc, ⟨g0, hm0⟩, D0, sz0, k0, ld0, hc0⟩ := id hcl
  have hx := hR.1.1
  by_cases hok : inN s 3 ∧ ¬ x < 0
  · obtain ⟨p, hp, rfl⟩ := id hok.1
    obtain ⟨m, hm31, rfl⟩ := nI_of hok.2
    obtain ⟨r, G1, h1, rfl, hs1, hS1⟩ := p_X6_tear 3 hR.1 hS hst7 p hp m hm31
    have hsc := sIn_c hp hs1
    have he1 := envO_c he hsc
    have hm1 := mdl_c hm hsc
    obtain ⟨r, G3, h2, hs3, hq⟩ := p_X7_tear 7 (hm1.o o _) hst7 (nI p) (nI m)
    rcases hq with ⟨hb, -⟩ | ⟨p2, m2, hp2, hm2, e1, e2, rfl, hm3⟩
    · exact absurd hok hb
    · obtain rfl := nI_inj (by omega) (by omega) e1
      obtain rfl := nI_inj hm31 hm2 e2
      exact pr_fin (w_tear_0 he1.2 hx h1) (st_tear hst (ctW_le (w p) m) hp) (show clOK (va_up A 7 (upd (A 7) p (nI (ctW (w p) m)))) n kn hr dz (wup w p (ctW (w p) m)) my wr sy ls G1 from cl_stk hcl hp hs1 hS1) he1 hm1 ⟨G3, _, _, _, h2, hs3, hm3⟩
  · refine pr_thr (k := 1) (by decide) (w_tear_1 hx (p_X6_tear_bad 3 hok)) hst hcl he hm ?_
    obtain ⟨r, G3, h2, hs3, hq⟩ := p_X7_tear 7 hm hst7 s x
    rcases hq with ⟨-, rfl, hm3⟩ | ⟨p2, m2, hp2, hm2, rfl, rfl, -⟩
    · exact ⟨_, G3, cn, lt, gd, h2, hs3, hm3⟩
    · exact absurd ⟨⟨p2, hp2, rfl⟩, nI_pos hm2⟩ hok
def syU (sy : Nat → Nat → Nat) (s : Nat) (f : Nat → Nat) : Nat → Nat → Nat := fun x e => if x = s then f e else sy x e
def lsU (ls : Nat → List Nat) (s : Nat) (l : List Nat) : Nat → List Nat := fun x => if x = s then l else ls x
theorem rdN_full (m : Nat) : rdN (1 + (m + 3) / 4) m = m := by
  unfold rdN
  repeat' split
  all_goals omega
theorem st_write {A : Nat → Nat → Int32} {n : Nat → Nat} {kn : Nat → Nat → Nat} {hr : Nat → Nat → Nat → Nat} {dz w my wr : Nat → Nat} {sy : Nat → Nat → Nat} {ls : Nat → List Nat} {c s : Nat} {g9 g11 : Nat → Int32} (hst : stOK A n kn hr dz w my wr sy ls) (hc : c < 4) (hs : s < 3) (h9 : smO (A 9) g9 (4 * s) 4) (h9b : ∀ e, e < 4 → g9 (4 * s + e) = nI (kn c e)) (h11 : smO (A 11) g11 (96 * s) 96) (hl : lstF id g11 (96 * s) (wrL hr kn c 4)) : stOK (rA A (upd (A 7) s (nI (1 + ((wrL hr kn c 4).length + 3) / 4))) (upd (A 8) s (nI c)) g9 (upd (A 10) s (nI (wrL hr kn c 4).length)) g11) n kn hr dz (wup w s (1 + ((wrL hr kn c 4).length + 3) / 4)) (wup my s (wrL hr kn c 4).length) (wup wr s c) (syU sy s (kn c)) (lsU ls s (wrL hr kn c 4)) := by
  obtain ⟨hk, hh, hdz, hst7, hsk, hwf, hcc⟩ := hst
  have hkl : ∀ d, d < 4 → kn c d ≤ 24 := fun d hd => hk.le hc hd
  have hlen := wrL_len (hr := hr) hkl 4 (by omega)
  refine ⟨hk, hh, hdz, fun x hx => ?_, fun x hx => ?_, hwf, hcc⟩
  · show upd (A 7) s _ x = _ ∧ _ ∧ upd (A 10) s _ x = _ ∧ _
    by_cases e : x = s
    · subst e
      rw [pk_us, pk_us, wup_y, wup_y]
      exact ⟨rfl, by omega, rfl, by omega⟩
    · rw [pk_un e, pk_un e, wup_n e, wup_n e]
      exact hst7 x hx
  · show wup wr s c x < 4 ∧ upd (A 8) s (nI c) x = _ ∧ (∀ e, e < 4 → g9 (4 * x + e) = _ ∧ _) ∧ lstF id g11 (96 * x) _ ∧ _ ∧ _
    by_cases e : x = s
    · subst e
      rw [wup_y, wup_y, pk_us, show lsU ls x (wrL hr kn c 4) x = wrL hr kn c 4 from if_pos rfl]
      refine ⟨hc, rfl, fun e he => ?_, hl, rfl, fun y hy => ?_⟩
      · rw [show syU sy x (kn c) x e = kn c e from if_pos rfl]
        exact ⟨h9b e he, hkl e he⟩
      · have h0 := wrL_mem (hr := hr) hkl 4 (by omega) hy
        exact ⟨h0.1, Nat.lt_of_lt_of_le h0.2 (hk.2 c (y / 24) hc (by omega)).2⟩
    · rw [wup_n e, wup_n e, pk_un e, show lsU ls s (wrL hr kn c 4) x = ls x from if_neg e]
      obtain ⟨k1, k2, k3, k4, k5, k6⟩ := hsk x hx
      refine ⟨k1, k2, fun y hy => ?_, fun j hj => ?_, k5, k6⟩
      · rw [show syU sy s (kn c) x y = sy x y from if_neg e, h9 _ (by omega)]
        exact k3 y hy
      · have hj96 : (ls x).length ≤ 96 := by rw [k5]; exact (hst7 x hx).2.2.2
        rw [h11 _ (by omega)]
        exact k4 j hj
theorem cs_write {w my wr : Nat → Nat} {sy : Nat → Nat → Nat} {ls : Nat → List Nat} {c s : Nat} {f : Nat → Nat} {l : List Nat} {G G' : ma_G} (hS : cSt w my wr sy ls G) (hsm : sm (sIn (33 + 4 * s)) G G') (hk : ∃ Wk B E, sk G' (33 + 4 * s) Wk B E (nI c) (nI l.length) (nI (1 + (l.length + 3) / 4)) ∧ (∀ e, e < 4 → Wk e = nI (f e)) ∧ lstF (fun x => x / 24) B 0 l ∧ lstF (fun x => x % 24) E 0 l) : cSt (wup w s (1 + (l.length + 3) / 4)) (wup my s l.length) (wup wr s c) (syU sy s f) (lsU ls s l) G' := by
  intro x hx
  by_cases e : x = s
  · subst e
    obtain ⟨Wk, B, E, h1, h2, h3, h4⟩ := hk
    rw [wup_y, wup_y, wup_y, rdN_full, show lsU ls x l x = l from if_pos rfl]
    exact ⟨Wk, B, E, h1, fun e he => by rw [show syU sy x f x e = f e from if_pos rfl]; exact h2 e he, h3, h4⟩
  · obtain ⟨Wk, B, E, h1, h2, h3, h4⟩ := hS x hx
    rw [wup_n e, wup_n e, wup_n e, show lsU ls s l x = ls x from if_neg e]
    exact ⟨Wk, B, E, h1.sm hsm (fun k hk q => by have := q.1; have := q.2; omega), fun y hy => by rw [show syU sy s f x y = sy x y from if_neg e]; exact h2 y hy, h3, h4⟩
theorem cmd_write {L : Nat} {xs : Nat → Int32} {t : Int32} {G : ma_G} {o : Nat → Int64} (h : INV L xs t G o) (c s : Int32) : PRi L xs G 54 [.ref 1, .int c, .int s, .ref 63] 110 [.ref 49, .int c, .int s] := by
  obtain ⟨A, n, kn, hr, dz, w, my, wr, sy, ls, cn, lt, gd, hst, hcl, hm, he⟩ := h
  obtain ⟨hk, hh, hdz, hst7, hsk, hwf, hcc⟩ := id hst
  obtain ⟨hR, hS, hSc, ⟨g0, hm0⟩, D0, sz0, k0, ld0, hc0⟩ := id hcl
  have hx := hR.1.1
  by_cases hok : inN c 4 ∧ inN s 3
  · obtain ⟨⟨cc, hc, rfl⟩, ⟨ss, hs, rfl⟩⟩ := id hok
    obtain ⟨r, G1, h1, rfl, hs1, hS1⟩ := p_X6_write 3 hR hk hS cc hc ss hs
    have hsc := sIn_c hs hs1
    have he1 := envO_c he hsc
    have hm1 := mdl_c hm hsc
    obtain ⟨r, G3, h2, hs3, hq⟩ := p_X7_write 7 (hm1.o o _) hk hh (nI cc) (nI ss)
    rcases hq with ⟨hb, -⟩ | ⟨c2, s2, g9, g11, hc2, hs2, e1, e2, rfl, h9, h9b, h11, hl, hm3⟩
    · exact absurd hok hb
    · obtain rfl := nI_inj (by omega) (by omega) e1
      obtain rfl := nI_inj (by omega) (by omega) e2
      exact pr_fin (w_write_0 he1.2 hx h1) (st_write hst hc hs h9 h9b h11 hl) (cl_stk (A := rA A _ _ g9 _ g11) hcl hs hs1 (cs_write hS hs1 hS1)) he1 hm1 ⟨G3, _, _, _, h2, hs3, hm3⟩
  · refine pr_thr (k := 1) (by decide) (w_write_1 hx (p_X6_write_bad 3 hok)) hst hcl he hm ?_
    obtain ⟨r, G3, h2, hs3, hq⟩ := p_X7_write 7 hm hk hh c s
    rcases hq with ⟨-, rfl, hm3⟩ | ⟨c2, s2, g9, g11, hc2, hs2, rfl, rfl, -⟩
    · exact ⟨_, G3, cn, lt, gd, h2, hs3, hm3⟩
    · exact absurd ⟨⟨c2, hc2, rfl⟩, ⟨s2, hs2, rfl⟩⟩ hok
theorem hrF_o {hr : Nat → Nat → Nat → Nat} {c wr w x b e : Nat} {sy : Nat → Nat} (h : x ≠ c) : hrF hr c wr sy w x b e = hr x b e := by
  unfold hrF
  split
  · unfold hrH; rw [if_neg (fun q => h q.1)]
  · rfl
theorem ldS_c {kn : Nat → Nat → Nat} {n : Nat → Nat} {c : Nat} {l : List Nat} (hcc : kn c c = n c) (hl : ∀ x, x ∈ l → x < 96 ∧ x % 24 < n (x / 24)) : ∀ k, k ≤ l.length → (ldS kn c l k).1 c c = n c := by
  intro k
  induction k with
  | zero => intro _; exact hcc
  | succ k ih =>
    intro hk
    have h0 := ih (by omega)
    rw [ldS]
    split
    · rename_i hq
      show kup (ldS kn c l k).1 c (l.getD k 0 / 24) c c = _
      by_cases e : l.getD k 0 / 24 = c
      · have hm := hl _ (getD_mem (l := l) (k := k) (by omega))
        rw [e] at hq hm
        omega
      · rw [kup_n (fun q => e q.2.symm)]
        exact h0
    · exact h0
theorem st_load {A : Nat → Nat → Int32} {n : Nat → Nat} {kn : Nat → Nat → Nat} {hr : Nat → Nat → Nat → Nat} {dz w my wr : Nat → Nat} {sy : Nat → Nat → Nat} {ls : Nat → List Nat} {c : Nat} {hr' : Nat → Nat → Nat → Nat} {kn' : Nat → Nat → Nat} {g6 g5 : Nat → Int32} (hst : stOK A n kn hr dz w my wr sy ls) (h6 : mHr (va_up (va_up A 6 g6) 5 g5) hr') (h5 : mKn (va_up (va_up A 6 g6) 5 g5) n kn') (hcc' : ∀ x, x < 4 → kn' x x = n x) : stOK (va_up (va_up A 6 g6) 5 g5) n kn' hr' dz w my wr sy ls := by
  obtain ⟨hk, hh, hdz, hst7, hsk, hwf, hcc⟩ := hst
  exact ⟨h5, h6, hdz, hst7, hsk, hwf, hcc'⟩
theorem cl_load {A : Nat → Nat → Int32} {n : Nat → Nat} {kn : Nat → Nat → Nat} {hr : Nat → Nat → Nat → Nat} {dz w my wr : Nat → Nat} {sy : Nat → Nat → Nat} {ls : Nat → List Nat} {c : Nat} {hr' : Nat → Nat → Nat → Nat} {kn' : Nat → Nat → Nat} {G G' : ma_G} (hcl : clOK A n kn hr dz w my wr sy ls G) (hc : c < 4) (hs : sm (eIn c) G G') (hs2 : sm (fun x => x = 12 + 6 * c ∨ x = 13 + 6 * c) G G') {Kn Hd : Nat → Int32} (hl : cl G' (11 + 6 * c) c Kn Hd) (hK : clK c kn' Kn) (hH : clH c hr' Hd) (hko : ∀ x e, x ≠ c → kn' x e = kn x e) (hho : ∀ x b e, x ≠ c → hr' x b e = hr x b e) : clOK A n kn' hr' dz w my wr sy ls G' := by
  obtain ⟨hR, hS, hSc, ⟨g, h4⟩, D, sz, k, ld, h5⟩ := hcl
  refine ⟨⟨hR.1.sm hs2 (by omega) (by omega) (by omega) (by omega) (by omega), fun x hx => ?_, fun x hx => ?_⟩, hS.sm hs2 (fun a h1 h2 q => by omega), hSc.sm hs2 (fun a h1 h2 q => by omega), ⟨g, h4.sm hs2 (by omega) (by omega)⟩, D, sz, k, ld, h5.sm hs2 (by omega) (by omega)⟩
  · obtain ⟨K, N, hb, hA⟩ := hR.2.1 x hx
    exact ⟨K, N, hb.sm hs2 (by omega) (by omega) (by omega), hA⟩
  · by_cases e : x = c
    · subst e
      exact ⟨Kn, Hd, hl, hK, hH⟩
    · obtain ⟨K, N, hl2, hK2, hH2⟩ := hR.2.2 x hx
      refine ⟨K, N, hl2.sm hs2 (by omega) (by omega) (by omega), fun y hy => ?_, fun b y hb hy => ?_⟩
      · rw [hko x y e]; exact hK2 y hy
      · rw [hho x b y e]; exact hH2 b y hb hy
theorem cmd_load {L : Nat} {xs : Nat → Int32} {t : Int32} {G : ma_G} {o : Nat → Int64} (h : INV L xs t G o) (c s : Int32) : PRi L xs G 65 [.ref 1, .int c, .int s, .ref 63] 113 [.ref 49, .int c, .int s] := by
  obtain ⟨A, n, kn, hr, dz, w, my, wr, sy, ls, cn, lt, gd, hst, hcl, hm, he⟩ := h
  obtain ⟨hk, hh, hdz, hst7, hsk, hwf, hcc⟩ := id hst
  obtain ⟨hR, hS, hSc, ⟨g0, hm0⟩, D0, sz0, k0, ld0, hc0⟩ := id hcl
  have hx := hR.1.1
  by_cases hok : inN c 4 ∧ inN s 3
  · obtain ⟨⟨cc, hc, rfl⟩, ⟨ss, hs, rfl⟩⟩ := id hok
    obtain ⟨r, G1, h1, rfl, hs1, Kn, Hd, hl1, hK1, hH1, hs1b⟩ := p_X6_load 3 hR hk (A2 := A) hS hst7 hsk cc hc ss hs
    have hsc := eIn_c hc hs1
    have he1 := envO_c he hsc
    have hm1 := mdl_c hm hsc
    have hskk := hsk ss hs
    obtain ⟨r, G3, h2, hs3, hq⟩ := p_X7_load 7 (hm1.o o (nI (ldS kn cc (ls ss) (rdN (w ss) (my ss))).2).toInt64) hk hh hst7 hsk (nI cc) (nI ss)
    rcases hq with ⟨hb, -⟩ | ⟨c2, s2, g6, g5, hc2, hs2, e1, e2, rfl, h6, h5, hm3⟩
    · exact absurd hok hb
    · obtain rfl := nI_inj (by omega) (by omega) e1
      obtain rfl := nI_inj (by omega) (by omega) e2
      have hccN : ∀ x, x < 4 → (ldS kn cc (ls ss) (rdN (w ss) (my ss))).1 x x = n x := fun x hx => by
        by_cases e : x = cc
        · subst e
          exact ldS_c (hcc x hx) hskk.2.2.2.2.2 _ (by rw [hskk.2.2.2.2.1]; exact rdN_le _ _)
        · rw [ldS_o e]; exact hcc x hx
      exact pr_fin (w_load_0 he1.2 hx h1) (st_load (c := cc) hst h6 h5 hccN) (cl_load (A := va_up (va_up A 6 g6) 5 g5) hcl hc hs1 hs1b hl1 hK1 hH1 (fun x e hx => ldS_o hx _) (fun x b e hx => hrF_o hx)) he1 hm1 ⟨G3, _, _, _, h2, hs3, hm3⟩
  · refine pr_thr (k := 1) (by decide) (w_load_1 hx (p_X6_load_bad 3 hok)) hst hcl he hm ?_
    obtain ⟨r, G3, h2, hs3, hq⟩ := p_X7_load 7 hm hk hh hst7 hsk c s
    rcases hq with ⟨-, rfl, hm3⟩ | ⟨c2, s2, g9, g11, hc2, hs2, rfl, rfl, -⟩
    · exact ⟨_, G3, cn, lt, gd, h2, hs3, hm3⟩
    · exact absurd ⟨⟨c2, hc2, rfl⟩, ⟨s2, hs2, rfl⟩⟩ hok
