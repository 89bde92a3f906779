/-- what 'judge' leaves -/
def jgQ (b : Nat) (A : Nat → Nat → Int32) (kn : Nat → Nat → Nat) (c p v z : Nat) (t : Int32) (G : ma_G) (r : Option Value) (G' : ma_G) : Prop := r = none ∧ sm (mIn b) G G' ∧ ∃ f g k l, (∀ q, q < 12 → g q = nI (f q)) ∧ jd A kn c p v z f k l ∧ mdl b (va_up A 12 g) t (nI k) l (if k = z then l else -1) G'
theorem p_X7_judge (d : Nat) {b : Nat} {A : Nat → Nat → Int32} {t cn lt gd : Int32} {G : ma_G} (hm : mdl b A t cn lt gd G) {n : Nat → Nat} {kn : Nat → Nat → Nat} (hk : mKn A n kn) (c : Nat) (hc : c < 4) (p : Nat) (hp : p < 12) (v : Nat) (hv : v < 3) {dz : Nat → Nat} (hdz : mDz A dz) (hwd : wfD A kn c) (hws : wfS A kn c) : Cq (d + 4) 121 [.ref b, .int (nI c), .int (nI p), .int (nI v)] G (jgQ b A kn c p v (dz v) t G) := by
  refine cq_of rfl ?_
  refine rq_st 1 rfl rfl ?_
  refine rq_st 2 rfl rfl ?_
  refine rq_callq [_, _] _ 5 rfl rfl rfl rfl rfl (Nat.le_of_ble_eq_true rfl) (cats rfl) (rcv_s rfl hm.1) (p_X7_names (d + 2) hm hk c hc hws) rfl (fun v9 G1 hv9 => ?_)
  obtain ⟨rfl, f, g, hg, hf, hm2, hs2⟩ := hv9
  refine rq_st 6 rfl rfl ?_
  refine rq_ic 7 (nI 0) rfl (by decide) rfl ?_
  refine rq_puti 10 rfl hm2.1 (Nat.le_of_ble_eq_true rfl) rfl rfl ?_
  have hm3 := hm2.put (t' := t) (cn' := nI 0) (lt' := lt) (gd' := gd) (fs := (mFs b t cn lt gd).set 14 (.int (nI 0))) rfl
  refine rq_st 11 rfl rfl ?_
  refine rq_ic 12 (nI 0) rfl (by decide) rfl ?_
  refine rq_puti 15 rfl hm3.1 (Nat.le_of_ble_eq_true rfl) rfl rfl ?_
  have hm4 := hm3.put (t' := t) (cn' := nI 0) (lt' := nI 0) (gd' := gd) (fs := (mFs b t (nI 0) lt gd).set 15 (.int (nI 0))) rfl
  refine rq_st 16 rfl rfl ?_
  refine rq_ic 17 (-1) rfl (by decide) rfl ?_
  refine rq_puti 20 rfl hm4.1 (Nat.le_of_ble_eq_true rfl) rfl rfl ?_
  have hm5 := hm4.put (t' := t) (cn' := nI 0) (lt' := nI 0) (gd' := -1) (fs := (mFs b t (nI 0) (nI 0) gd).set 16 (.int (-1))) rfl
  refine rq_ic 21 (-1) rfl (by decide) rfl ?_
  refine rq_st 23 rfl rfl ?_
  refine rq_ic 24 (-1) rfl (by decide) rfl ?_
  refine rq_st 26 rfl rfl ?_
  refine rq_ic 27 (nI 1) rfl (by decide) rfl ?_
  refine rq_st 29 rfl rfl ?_
  have hz1 := (hdz v hv).2.1
  have hday := fit_day (f := f) (p := p) (v := v) hwd
  have q := jl_loop (G := G) d (A := va_up A 12 g) (t := t) hk c hc p hp v hv hdz hwd f hg (fun q hq => Nat.lt_of_le_of_lt (hf.1.1 q hq) hq) (97 : Nat) (sl (fit A kn c f p v) (dyA A) 96) (-1) (-1) 0 (nI 0) _ none none none none none none (sl_congr 96 (fun a ha => ⟨fun q => q.1, fun q => ⟨q, by
    show bhI (-1) (-1) (A 4 (4 * a + 3)) a
    have e := hday a ha q
    rw [e.1, bhI_N (by omega) (by omega)]
    exact Or.inl (by show (-1 : Int) < _; omega)⟩⟩)) (Nat.lt_succ_of_le (sl_len 96)) (by omega) rfl (by rw [if_neg (by omega)]; exact hm5) (((hs2.set (mIn_0 b)).set (mIn_0 b)).set (mIn_0 b))
  refine rq_mono q ?_
  rintro r ⟨v9, G9, rfl, rfl, hs9, k9, l9, h1, h2, h3⟩
  exact ⟨_, _, rfl, rfl, hs9, f, g, k9, l9, hg, ⟨hf, h1, h2⟩, h3⟩
def okMy (c p v : Int32) : Prop := inN c 4 ∧ inN p 12 ∧ inN v 3
def myQ (b : Nat) (A : Nat → Nat → Int32) (kn : Nat → Nat → Nat) (dz : Nat → Nat) (cn lt gd : Int32) (G : ma_G) (c p v : Int32) (R0 : Option Value) (R1 : Nat → Nat → Int32 → Option Value) (r : Option Value) (G' : ma_G) : Prop := sm (mIn b) G G' ∧ ((¬ okMy c p v ∧ r = R0 ∧ mdl b A (nI 1) cn lt gd G') ∨ ∃ cc pp vv f g k l, cc < 4 ∧ pp < 12 ∧ vv < 3 ∧ c = nI cc ∧ p = nI pp ∧ v = nI vv ∧ r = R1 vv k l ∧ jd A kn cc pp vv (dz vv) f k l ∧ mdl b (va_up A 12 g) (nI 0) (nI k) l (if k = dz vv then l else -1) G')
theorem p_X7_may (d : Nat) {b : Nat} {A : Nat → Nat → Int32} {t cn lt gd : Int32} {G : ma_G} (hm : mdl b A t cn lt gd G) {n : Nat → Nat} {kn : Nat → Nat → Nat} (hk : mKn A n kn) {dz : Nat → Nat} (hdz : mDz A dz) (hwd : ∀ c, c < 4 → wfD A kn c) (hws : ∀ c, c < 4 → wfS A kn c) (c p v : Int32) : Cq (d + 5) 120 [.ref b, .int c, .int p, .int v] G (myQ b A kn dz cn lt gd G c p v (some (.int (nI 0))) (fun _ _ _ => some (.int (nI 1)))) := by
  refine cq_of rfl ?_
  have Jb : ¬ okMy c p v → Rq (d + 4) M_X7_may 30 [some (.ref b), some (.int c), some (.int p), some (.int v)] [.ref b] G (Qr (myQ b A kn dz cn lt gd G c p v (some (.int (nI 0))) (fun _ _ _ => some (.int (nI 1))))) := by
    intro hbad
    refine rq_ic 31 (nI 1) rfl (by decide) rfl ?_
    refine rq_puti 34 rfl hm.1 (Nat.le_of_ble_eq_true rfl) rfl rfl ?_
    have hm1 := hm.thr (nI 1)
    refine rq_st 35 rfl rfl ?_
    refine rq_getf 38 rfl hm1.1 rfl rfl ?_
    refine rq_ift rfl (by decide) ?_
    refine rq_st 49 rfl rfl ?_
    refine rq_getf 52 rfl hm1.1 rfl rfl ?_
    refine rq_ift rfl (by decide) ?_
    refine rq_ic 60 (nI 0) rfl (by decide) rfl ?_
    exact rq_iret rfl rfl rfl ⟨sm.rf.set (mIn_0 b), Or.inl ⟨hbad, rfl, hm1⟩⟩
  refine rq_st 1 rfl rfl ?_
  refine rq_st 2 rfl rfl ?_
  refine rq_ic 3 (nI 4) rfl (by decide) rfl ?_
  refine rq_call [_, _] _ 6 rfl rfl rfl rfl rfl (Nat.le_of_ble_eq_true rfl) (cats rfl) (rcv_n rfl) (p_X7_isIn (d + 3) _ 4 (by decide) _) rfl ?_
  refine rq_ifB 9 rfl rfl (fun h6 => ?_) (fun h6 => ?_)
  · skip
    exact Jb (fun q => h6 q.1)
  · skip
    refine rq_st 10 rfl rfl ?_
    refine rq_bp 12 (nI 12) rfl (by decide) rfl ?_
    refine rq_call [_, _] _ 15 rfl rfl rfl rfl rfl (Nat.le_of_ble_eq_true rfl) (cats rfl) (rcv_n rfl) (p_X7_isIn (d + 3) _ 12 (by decide) _) rfl ?_
    refine rq_ifB 18 rfl rfl (fun h15 => ?_) (fun h15 => ?_)
    · skip
      exact Jb (fun q => h15 q.2.1)
    · skip
      refine rq_st 19 rfl rfl ?_
      refine rq_ic 20 (nI 3) rfl (by decide) rfl ?_
      refine rq_call [_, _] _ 23 rfl rfl rfl rfl rfl (Nat.le_of_ble_eq_true rfl) (cats rfl) (rcv_n rfl) (p_X7_isIn (d + 3) _ 3 (by decide) _) rfl ?_
      refine rq_ifB 26 rfl rfl (fun h23 => ?_) (fun h23 => ?_)
      · skip
        exact Jb (fun q => h23 q.2.2)
      · skip
        refine rq_ic 27 (nI 0) rfl (by decide) rfl ?_
        refine rq_st 31 rfl rfl ?_
        refine rq_puti 34 rfl hm.1 (Nat.le_of_ble_eq_true rfl) rfl rfl ?_
        obtain ⟨cc, hc, rfl⟩ := h6
        obtain ⟨pp, hp, rfl⟩ := h15
        obtain ⟨vv, hvv, rfl⟩ := h23
        have hm1 := hm.thr (nI 0)
        refine rq_st 35 rfl rfl ?_
        refine rq_getf 38 rfl hm1.1 rfl rfl ?_
        refine rq_iff 41 rfl rfl (by decide) ?_
        refine rq_st 42 rfl rfl ?_
        refine rq_st 43 rfl rfl ?_
        refine rq_st 44 rfl rfl ?_
        refine rq_st 45 rfl rfl ?_
        refine rq_callq [_, _, _, _] _ 48 rfl rfl rfl rfl rfl (Nat.le_of_ble_eq_true rfl) (cats rfl) (rcv_s rfl hm1.1) (p_X7_judge d hm1 hk cc hc pp hp vv hvv hdz (hwd cc hc) (hws cc hc)) rfl (fun v G1 hv => ?_)
        obtain ⟨rfl, hs2, f, g, k, l, hg, hj, hm2⟩ := hv
        refine rq_st 49 rfl rfl ?_
        refine rq_getf 52 rfl hm2.1 rfl rfl ?_
        refine rq_iff 55 rfl rfl (by decide) ?_
        refine rq_ic 56 (nI 1) rfl (by decide) rfl ?_
        refine rq_st 60 rfl rfl ?_
        exact rq_iret rfl rfl rfl ⟨(sm.rf.set (mIn_0 b)).tr hs2, Or.inr ⟨cc, pp, vv, f, g, k, l, hc, hp, hvv, rfl, rfl, rfl, rfl, hj, hm2⟩⟩
theorem p_X7_counting (d : Nat) {b : Nat} {A : Nat → Nat → Int32} {t cn lt gd : Int32} {G : ma_G} (hm : mdl b A t cn lt gd G) {n : Nat → Nat} {kn : Nat → Nat → Nat} (hk : mKn A n kn) {dz : Nat → Nat} (hdz : mDz A dz) (hwd : ∀ c, c < 4 → wfD A kn c) (hws : ∀ c, c < 4 → wfS A kn c) (c p v : Int32) : Cq (d + 6) 119 [.ref b, .int c, .int p, .int v] G (myQ b A kn dz cn lt gd G c p v (some (.int (nI 0))) (fun _ k _ => some (.int (nI k)))) := by
  refine cq_of rfl ?_
  refine rq_st 1 rfl rfl ?_
  refine rq_st 2 rfl rfl ?_
  refine rq_st 3 rfl rfl ?_
  refine rq_st 4 rfl rfl ?_
  refine rq_callq [_, _, _, _] _ 7 rfl rfl rfl rfl rfl (Nat.le_of_ble_eq_true rfl) (cats rfl) (rcv_s rfl hm.1) (p_X7_may d hm hk hdz hwd hws c p v) rfl (fun v9 G1 hv9 => ?_)
  obtain ⟨hs1, ⟨hbad, rfl, hm1⟩ | ⟨cc, pp, vv, f, g, k, l, hc, hp, hvv, rfl, rfl, rfl, rfl, hj, hm2⟩⟩ := hv9
  · skip
    refine rq_ift rfl (by decide) ?_
    refine rq_ic 18 (nI 0) rfl (by decide) rfl ?_
    exact rq_iret rfl rfl rfl ⟨hs1, Or.inl ⟨hbad, rfl, hm1⟩⟩
  · skip
    refine rq_iff 10 rfl rfl (by decide) ?_
    refine rq_st 11 rfl rfl ?_
    refine rq_getf 14 rfl hm2.1 rfl rfl ?_
    refine rq_st 18 rfl rfl ?_
    exact rq_iret rfl rfl rfl ⟨hs1, Or.inr ⟨cc, pp, vv, f, g, k, l, hc, hp, hvv, rfl, rfl, rfl, rfl, hj, hm2⟩⟩
theorem p_X7_protectedDay (d : Nat) {b : Nat} {A : Nat → Nat → Int32} {t cn lt gd : Int32} {G : ma_G} (hm : mdl b A t cn lt gd G) {n : Nat → Nat} {kn : Nat → Nat → Nat} (hk : mKn A n kn) {dz : Nat → Nat} (hdz : mDz A dz) (hwd : ∀ c, c < 4 → wfD A kn c) (hws : ∀ c, c < 4 → wfS A kn c) (c p v : Int32) : Cq (d + 6) 127 [.ref b, .int c, .int p, .int v] G (myQ b A kn dz cn lt gd G c p v (some (.int (nI 0))) (fun vv k l => some (.int (if k = dz vv then l else -1)))) := by
  refine cq_of rfl ?_
  refine rq_st 1 rfl rfl ?_
  refine rq_st 2 rfl rfl ?_
  refine rq_st 3 rfl rfl ?_
  refine rq_st 4 rfl rfl ?_
  refine rq_callq [_, _, _, _] _ 7 rfl rfl rfl rfl rfl (Nat.le_of_ble_eq_true rfl) (cats rfl) (rcv_s rfl hm.1) (p_X7_may d hm hk hdz hwd hws c p v) rfl (fun v9 G1 hv9 => ?_)
  obtain ⟨hs1, ⟨hbad, rfl, hm1⟩ | ⟨cc, pp, vv, f, g, k, l, hc, hp, hvv, rfl, rfl, rfl, rfl, hj, hm2⟩⟩ := hv9
  · skip
    refine rq_ift rfl (by decide) ?_
    refine rq_ic 18 (nI 0) rfl (by decide) rfl ?_
    exact rq_iret rfl rfl rfl ⟨hs1, Or.inl ⟨hbad, rfl, hm1⟩⟩
  · skip
    refine rq_iff 10 rfl rfl (by decide) ?_
    refine rq_st 11 rfl rfl ?_
    refine rq_getf 14 rfl hm2.1 rfl rfl ?_
    refine rq_st 18 rfl rfl ?_
    exact rq_iret rfl rfl rfl ⟨hs1, Or.inr ⟨cc, pp, vv, f, g, k, l, hc, hp, hvv, rfl, rfl, rfl, rfl, hj, hm2⟩⟩
theorem p_X7_due (d : Nat) {b : Nat} {A : Nat → Nat → Int32} {t cn lt gd : Int32} {G : ma_G} (hm : mdl b A t cn lt gd G) {n : Nat → Nat} {kn : Nat → Nat → Nat} (hk : mKn A n kn) {dz : Nat → Nat} (hdz : mDz A dz) (hwd : ∀ c, c < 4 → wfD A kn c) (hws : ∀ c, c < 4 → wfS A kn c) (c p v : Int32) : Cq (d + 6) 128 [.ref b, .int c, .int p, .int v] G (myQ b A kn dz cn lt gd G c p v (some (.int (nI 0))) (fun vv k l => some (.int (if k = 0 then nI 0 else if k = dz vv then -1 else l + A 1 (4 * vv + k))))) := by
  refine cq_of rfl ?_
  refine rq_st 1 rfl rfl ?_
  refine rq_st 2 rfl rfl ?_
  refine rq_st 3 rfl rfl ?_
  refine rq_st 4 rfl rfl ?_
  refine rq_callq [_, _, _, _] _ 7 rfl rfl rfl rfl rfl (Nat.le_of_ble_eq_true rfl) (cats rfl) (rcv_s rfl hm.1) (p_X7_may d hm hk hdz hwd hws c p v) rfl (fun v9 G1 hv9 => ?_)
  obtain ⟨hs1, ⟨hbad, rfl, hm1⟩ | ⟨cc, pp, vv, f, g, k, l, hc, hp, hvv, rfl, rfl, rfl, rfl, hj, hm2⟩⟩ := hv9
  · skip
    refine rq_iff 10 rfl rfl (by decide) ?_
    refine rq_ic 11 (nI 0) rfl (by decide) rfl ?_
    exact rq_iret rfl rfl rfl ⟨hs1, Or.inl ⟨hbad, rfl, hm1⟩⟩
  · skip
    have hz0 := hdz vv hvv
    have hkz := hj.2.2
    refine rq_ift rfl (by decide) ?_
    refine rq_st 13 rfl rfl ?_
    refine rq_getf 16 rfl hm2.1 rfl rfl ?_
    refine rq_ifN 19 rfl rfl (by omega) (fun h16 => ?_) (fun h16 => ?_)
    · dsimp only [cN] at h16
      refine rq_st 24 rfl rfl ?_
      refine rq_getf 27 rfl hm2.1 rfl rfl ?_
      refine rq_st 28 rfl rfl ?_
      refine rq_getf 31 rfl hm2.1 rfl rfl ?_
      refine rq_st 32 rfl rfl ?_
      refine rq_ialN 33 rfl (hm2.arr 0 (n := 3) (by decide) rfl rfl) (by omega) (by decide) rfl ?_
      rw [show va_up A 12 g 0 vv = nI (dz vv) from hz0.1]
      refine rq_cmpN 36 rfl rfl (by omega) (by omega) (fun h33 => ?_) (fun h33 => ?_)
      · dsimp only [cN] at h33
        refine rq_st 41 rfl rfl ?_
        refine rq_getf 44 rfl hm2.1 rfl rfl ?_
        refine rq_st 45 rfl rfl ?_
        refine rq_getf 48 rfl hm2.1 rfl rfl ?_
        refine rq_ic 49 (nI 4) rfl (by decide) rfl ?_
        refine rq_st 50 rfl rfl ?_
        refine rq_mulN 51 rfl rfl ?_
        refine rq_st 52 rfl rfl ?_
        refine rq_getf 55 rfl hm2.1 rfl rfl ?_
        refine rq_addN 56 rfl rfl ?_
        refine rq_ialN 57 rfl (hm2.arr 1 (n := 12) (by decide) rfl rfl) (by omega) (by decide) rfl ?_
        refine rq_st 58 rfl rfl ?_
        exact rq_iret rfl rfl rfl (by first | exact ⟨hs1, Or.inr ⟨cc, pp, vv, f, g, k, l, hc, hp, hvv, rfl, rfl, rfl, congrArg (fun x => some (Value.int x)) ((if_pos (by omega)).symm), hj, hm2⟩⟩ | exact ⟨hs1, Or.inr ⟨cc, pp, vv, f, g, k, l, hc, hp, hvv, rfl, rfl, rfl, congrArg (fun x => some (Value.int x)) (by rw [if_neg (by omega), if_pos (by omega)]), hj, hm2⟩⟩ | exact ⟨hs1, Or.inr ⟨cc, pp, vv, f, g, k, l, hc, hp, hvv, rfl, rfl, rfl, congrArg (fun x => some (Value.int x)) (by rw [if_neg (by omega), if_neg (by omega)]; rfl), hj, hm2⟩⟩)
      · dsimp only [cN] at h33
        refine rq_ic 37 (-1) rfl (by decide) rfl ?_
        refine rq_st 58 rfl rfl ?_
        exact rq_iret rfl rfl rfl (by first | exact ⟨hs1, Or.inr ⟨cc, pp, vv, f, g, k, l, hc, hp, hvv, rfl, rfl, rfl, congrArg (fun x => some (Value.int x)) ((if_pos (by omega)).symm), hj, hm2⟩⟩ | exact ⟨hs1, Or.inr ⟨cc, pp, vv, f, g, k, l, hc, hp, hvv, rfl, rfl, rfl, congrArg (fun x => some (Value.int x)) (by rw [if_neg (by omega), if_pos (by omega)]), hj, hm2⟩⟩ | exact ⟨hs1, Or.inr ⟨cc, pp, vv, f, g, k, l, hc, hp, hvv, rfl, rfl, rfl, congrArg (fun x => some (Value.int x)) (by rw [if_neg (by omega), if_neg (by omega)]; rfl), hj, hm2⟩⟩)
    · dsimp only [cN] at h16
      refine rq_ic 20 (nI 0) rfl (by decide) rfl ?_
      refine rq_st 58 rfl rfl ?_
      exact rq_iret rfl rfl rfl (by first | exact ⟨hs1, Or.inr ⟨cc, pp, vv, f, g, k, l, hc, hp, hvv, rfl, rfl, rfl, congrArg (fun x => some (Value.int x)) ((if_pos (by omega)).symm), hj, hm2⟩⟩ | exact ⟨hs1, Or.inr ⟨cc, pp, vv, f, g, k, l, hc, hp, hvv, rfl, rfl, rfl, congrArg (fun x => some (Value.int x)) (by rw [if_neg (by omega), if_pos (by omega)]), hj, hm2⟩⟩ | exact ⟨hs1, Or.inr ⟨cc, pp, vv, f, g, k, l, hc, hp, hvv, rfl, rfl, rfl, congrArg (fun x => some (Value.int x)) (by rw [if_neg (by omega), if_neg (by omega)]; rfl), hj, hm2⟩⟩)
