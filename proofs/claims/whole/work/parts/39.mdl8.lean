/-- how many below m have P -/
noncomputable def cntP (P : Nat → Prop) : Nat → Nat
  | 0 => 0
  | m + 1 => cntP P m + @ite _ (P m) (Classical.propDecidable _) 1 0
theorem cntP_y {P : Nat → Prop} {m : Nat} (h : P m) : cntP P (m + 1) = cntP P m + 1 := by rw [cntP, if_pos h]
theorem cntP_n {P : Nat → Prop} {m : Nat} (h : ¬ P m) : cntP P (m + 1) = cntP P m := by rw [cntP, if_neg h]; rfl
theorem cntP_le {P : Nat → Prop} : ∀ m : Nat, cntP P m ≤ m := by
  intro m
  induction m with
  | zero => exact Nat.le_refl 0
  | succ m ih =>
    by_cases h : P m
    · rw [cntP_y h]; omega
    · rw [cntP_n h]; omega
/-- p, a name, is protected on 'day' -/
def cvP (A : Nat → Nat → Int32) (kn : Nat → Nat → Nat) (c v z : Nat) (day : Int32) (p : Nat) : Prop := ∃ f k l, jd A kn c p v z f k l ∧ f p = p ∧ k = z ∧ l ≤ day
def hsD (A : Nat → Nat → Int32) (kn : Nat → Nat → Nat) (c : Nat) (f : Nat → Nat) (p a : Nat) : Prop := isK kn c a ∧ A 3 a = nI 1 ∧ ∃ q, q < 12 ∧ A 4 (4 * a) = nI q ∧ f q = p
theorem cv_iff {A : Nat → Nat → Int32} {kn : Nat → Nat → Nat} {c v z : Nat} {day : Int32} {p : Nat} {f : Nat → Nat} {k : Nat} {l : Int32} (hwd : wfD A kn c) (hp : p < 12) (hz : 1 ≤ z) (hj : jd A kn c p v z f k l) : cvP A kn c v z day p ↔ f p = p ∧ exU (hsD A kn c f p) 96 ∧ ¬ (if k = z then l else -1) < 0 ∧ ¬ day < (if k = z then l else -1) := by
  constructor
  · rintro ⟨f', k', l', hj', e1, e2, e3⟩
    obtain ⟨g1, g2, g3⟩ := jd_one hp hj hj'
    have hfp : f p = p := g1.trans e1
    have hkz : k = z := g2.trans e2
    obtain ⟨a, ha, hF, el⟩ := jd_pos hj (by omega)
    have hd := fit_day hwd a ha hF
    obtain ⟨q, hq, h2, h3⟩ := hF.2.1
    rw [if_pos hkz]
    refine ⟨hfp, ⟨a, ha, hF.1.1.1, hF.1.1.2, q, hq, h2, h3.trans hfp⟩, ?_, ?_⟩
    · rw [el]; exact nI_pos (by omega)
    · rw [g3]; exact Int32.not_lt.mpr e3
  · rintro ⟨h1, -, h3, h4⟩
    by_cases hkz : k = z
    · rw [if_pos hkz] at h4
      exact ⟨f, k, l, hj, h1, hkz, Int32.not_lt.mp h4⟩
    · rw [if_neg hkz] at h3
      exact absurd (by decide) h3
def coQ (b : Nat) (A : Nat → Nat → Int32) (kn : Nat → Nat → Nat) (dz : Nat → Nat) (G : ma_G) (c v day : Int32) (r : Option Value) (G' : ma_G) : Prop := sm (mIn b) G G' ∧ ∃ g t cn lt gd, mdl b (va_up A 12 g) t cn lt gd G' ∧ ((¬ (inN c 4 ∧ inN v 3) ∧ r = some (.int (nI 0)) ∧ t = nI 1) ∨ ∃ cc vv, cc < 4 ∧ vv < 3 ∧ c = nI cc ∧ v = nI vv ∧ t = nI 0 ∧ r = some (.int (nI (cntP (cvP A kn cc vv (dz vv) day) 12))))
theorem p_X7_coverage (d : Nat) {b : Nat} {A : Nat → Nat → Int32} {t cn lt gd : Int32} {G : ma_G} (hm : mdl b A t cn lt gd G) {n : Nat → Nat} {kn : Nat → Nat → Nat} (hk : mKn A n kn) {dz : Nat → Nat} (hdz : mDz A dz) (hwd : ∀ c, c < 4 → wfD A kn c) (hws : ∀ c, c < 4 → wfS A kn c) (c v day : Int32) : Cq (d + 5) 129 [.ref b, .int c, .int v, .int day] G (coQ b A kn dz G c v day) := by
  refine cq_of rfl ?_
  have Jb : ¬ (inN c 4 ∧ inN v 3) → Rq (d + 4) M_X7_coverage 21 [some (.ref b), some (.int c), some (.int v), some (.int day), none, none, none, none] [.ref b] G (Qr (coQ b A kn dz G c v day)) := by
    intro hbad
    refine rq_ic 22 (nI 1) rfl (by decide) rfl ?_
    refine rq_puti 25 rfl hm.1 (Nat.le_of_ble_eq_true rfl) rfl rfl ?_
    have hm1 := hm.thr (nI 1)
    refine rq_ic 26 (nI 0) rfl (by decide) rfl ?_
    refine rq_st 28 rfl rfl ?_
    refine rq_ic 29 (nI 0) rfl (by decide) rfl ?_
    refine rq_st 31 rfl rfl ?_
    refine rq_st 33 rfl rfl ?_
    refine rq_bp 35 (nI 12) rfl (by decide) rfl ?_
    refine rq_cmpf 38 rfl rfl (by decide) ?_
    refine rq_st 39 rfl rfl ?_
    refine rq_getf 42 rfl hm1.1 rfl rfl ?_
    refine rq_ift rfl (by decide) ?_
    refine rq_st 174 rfl rfl ?_
    exact rq_iret rfl rfl rfl ⟨sm.rf.set (mIn_0 b), A 12, nI 1, cn, lt, gd, by rw [va_up_id]; exact hm1, Or.inl ⟨hbad, rfl, rfl⟩⟩
  have outer : ∀ cc, cc < 4 → ∀ vv, vv < 3 → ∀ (m p n1 : Nat) (G2 : ma_G) (g : Nat → Int32) (cn lt gd : Int32) (o6 o7 : Option Value), p + m = 12 → n1 = cntP (cvP A kn cc vv (dz vv) day) p → mdl b (va_up A 12 g) (nI 0) cn lt gd G2 → sm (mIn b) G G2 → Rq (d + 4) M_X7_coverage 31 [some (.ref b), some (.int (nI cc)), some (.int (nI vv)), some (.int day), some (.int (nI n1)), some (.int (nI p)), o6, o7] [] G2 (Qr (coQ b A kn dz G (nI cc) (nI vv) day)) := by
    intro cc hc vv hvv m
    induction m with
    | zero =>
      intro p n1 G2 g cn lt gd o6 o7 hp hn1 hm2 hs2
      have hle := cntP_le (P := (cvP A kn cc vv (dz vv) day)) p
      refine rq_st 33 rfl rfl ?_
      refine rq_bp 35 (nI 12) rfl (by decide) rfl ?_
      refine rq_cmpt rfl ((ma_cmpN (by omega) (by omega)).mpr (by show 12 ≤ p; omega)) ?_
      refine rq_st 174 rfl rfl ?_
      exact rq_iret rfl rfl rfl ⟨hs2, g, nI 0, cn, lt, gd, hm2, Or.inr ⟨cc, vv, hc, hvv, rfl, rfl, rfl, by rw [hn1, show p = 12 by omega]⟩⟩
    | succ m ih =>
      intro p n1 G2 g cn lt gd o6 o7 hp hn1 hm2 hs2
      have hle := cntP_le (P := (cvP A kn cc vv (dz vv) day)) p
      have J163 : ∀ (G2 : ma_G) (g : Nat → Int32) (cn lt gd : Int32) (o6 o7 : Option Value) (z : Nat), mdl b (va_up A 12 g) (nI 0) cn lt gd G2 → sm (mIn b) G G2 → n1 + z = cntP (cvP A kn cc vv (dz vv) day) (p + 1) → Rq (d + 4) M_X7_coverage 163 [some (.ref b), some (.int (nI cc)), some (.int (nI vv)), some (.int day), some (.int (nI n1)), some (.int (nI p)), o6, o7] [.int (nI z), .int (nI n1)] G2 (Qr (coQ b A kn dz G (nI cc) (nI vv) day)) := by
        intro G2 g cn lt gd o6 o7 z hm2 hs2 hz
        refine rq_addN 164 rfl rfl ?_
        refine rq_st 166 rfl rfl ?_
        refine rq_incN 169 _ rfl rfl (nI_1 _) rfl rfl ?_
        refine rq_st 31 rfl rfl ?_
        exact ih (p + 1) (n1 + z) _ g _ _ _ _ _ (by omega) hz hm2 hs2
      have inner : ∀ (G3 : ma_G) (f : Nat → Nat) (g3 : Nat → Int32) (k : Nat) (l : Int32), (∀ q, q < 12 → g3 q = nI (f q)) → jd A kn cc p vv (dz vv) f k l → mdl b (va_up A 12 g3) (nI 0) (nI k) l (if k = dz vv then l else -1) G3 → sm (mIn b) G G3 → ∀ (m a : Nat) (w : Int32), a + m = 96 → w = bI (exU (hsD A kn cc f p) a) → Rq (d + 4) M_X7_coverage 59 [some (.ref b), some (.int (nI cc)), some (.int (nI vv)), some (.int day), some (.int (nI n1)), some (.int (nI p)), some (.int w), some (.int (nI a))] [] G3 (Qr (coQ b A kn dz G (nI cc) (nI vv) day)) := by
        intro G3 f g3 k l hg hj hm2 hs2 m
        have hf12 : ∀ q, q < 12 → f q < 12 := fun q hq => Nat.lt_of_le_of_lt (hj.1.1.1 q hq) hq
        have hfp := hf12 p (by omega)
        induction m with
        | zero =>
          intro a w ha hw
          refine rq_st 61 rfl rfl ?_
          refine rq_bp 63 (nI 96) rfl (by decide) rfl ?_
          refine rq_cmpt rfl ((ma_cmpN (by omega) (by omega)).mpr (by show 96 ≤ a; omega)) ?_
          obtain rfl : a = 96 := by omega
          subst hw
          have hcv := cv_iff (day := day) (hwd cc hc) (by omega) (hdz vv hvv).2.1 hj
          refine rq_st 126 rfl rfl ?_
          refine rq_st 127 rfl rfl ?_
          refine rq_getf 130 rfl hm2.1 rfl rfl ?_
          refine rq_st 132 rfl rfl ?_
          refine rq_ialN 133 rfl hm2.ar12 (by omega) (by decide) rfl ?_
          rw [hg p (by omega)]
          refine rq_st 135 rfl rfl ?_
          refine rq_cmpN 138 rfl rfl (by omega) (by omega) (fun h135 => ?_) (fun h135 => ?_)
          · dsimp only [cN] at h135
            have hz : ¬ (cvP A kn cc vv (dz vv) day) p := fun q => h135 (hcv.mp q).1
            refine rq_ic 163 (nI 0) rfl (by decide) rfl ?_
            first | exact J163 G3 g3 _ _ _ _ _ 1 hm2 hs2 (by rw [cntP_y hz, hn1]) | exact J163 G3 g3 _ _ _ _ _ 0 hm2 hs2 (by rw [cntP_n hz, hn1]; rfl)
          · dsimp only [cN] at h135
            refine rq_st 140 rfl rfl ?_
            refine rq_ifB 143 rfl rfl (fun h140 => ?_) (fun h140 => ?_)
            · skip
              have hz : ¬ (cvP A kn cc vv (dz vv) day) p := fun q => h140 (hcv.mp q).2.1
              refine rq_ic 163 (nI 0) rfl (by decide) rfl ?_
              first | exact J163 G3 g3 _ _ _ _ _ 1 hm2 hs2 (by rw [cntP_y hz, hn1]) | exact J163 G3 g3 _ _ _ _ _ 0 hm2 hs2 (by rw [cntP_n hz, hn1]; rfl)
            · skip
              refine rq_st 144 rfl rfl ?_
              refine rq_getf 147 rfl hm2.1 rfl rfl ?_
              refine rq_ifI 150 rfl rfl (fun h147 => ?_) (fun h147 => ?_)
              · dsimp only [cI] at h147
                have hz : ¬ (cvP A kn cc vv (dz vv) day) p := fun q => (hcv.mp q).2.2.1 h147
                refine rq_ic 163 (nI 0) rfl (by decide) rfl ?_
                first | exact J163 G3 g3 _ _ _ _ _ 1 hm2 hs2 (by rw [cntP_y hz, hn1]) | exact J163 G3 g3 _ _ _ _ _ 0 hm2 hs2 (by rw [cntP_n hz, hn1]; rfl)
              · dsimp only [cI] at h147
                refine rq_st 151 rfl rfl ?_
                refine rq_getf 154 rfl hm2.1 rfl rfl ?_
                refine rq_st 155 rfl rfl ?_
                refine rq_cmpI 158 rfl rfl (fun h155 => ?_) (fun h155 => ?_)
                · dsimp only [cI] at h155
                  have hz : ¬ (cvP A kn cc vv (dz vv) day) p := fun q => (hcv.mp q).2.2.2 h155
                  refine rq_ic 163 (nI 0) rfl (by decide) rfl ?_
                  first | exact J163 G3 g3 _ _ _ _ _ 1 hm2 hs2 (by rw [cntP_y hz, hn1]) | exact J163 G3 g3 _ _ _ _ _ 0 hm2 hs2 (by rw [cntP_n hz, hn1]; rfl)
                · dsimp only [cI] at h155
                  have hz : (cvP A kn cc vv (dz vv) day) p := hcv.mpr ⟨by omega, h140, h147, h155⟩
                  refine rq_ic 159 (nI 1) rfl (by decide) rfl ?_
                  refine rq_st 163 rfl rfl ?_
                  first | exact J163 G3 g3 _ _ _ _ _ 1 hm2 hs2 (by rw [cntP_y hz, hn1]) | exact J163 G3 g3 _ _ _ _ _ 0 hm2 hs2 (by rw [cntP_n hz, hn1]; rfl)
        | succ m ihm =>
          intro a w ha hw
          have J116 : ∀ w' : Int32, w' = bI (exU (hsD A kn cc f p) (a + 1)) → Rq (d + 4) M_X7_coverage 116 [some (.ref b), some (.int (nI cc)), some (.int (nI vv)), some (.int day), some (.int (nI n1)), some (.int (nI p)), some (.int w), some (.int (nI a))] [.int w'] G3 (Qr (coQ b A kn dz G (nI cc) (nI vv) day)) := by
            intro w' hw'
            refine rq_st 118 rfl rfl ?_
            refine rq_incN 121 _ rfl rfl (nI_1 _) rfl rfl ?_
            refine rq_st 59 rfl rfl ?_
            exact ihm (a + 1) _ (by omega) hw'
          refine rq_st 61 rfl rfl ?_
          refine rq_bp 63 (nI 96) rfl (by decide) rfl ?_
          refine rq_cmpf 66 rfl rfl (by rw [← Bool.not_eq_true, ma_cmpN (by omega) (by omega)]; show ¬ 96 ≤ a; omega) ?_
          subst hw
          refine rq_st 68 rfl rfl ?_
          refine rq_ifnB 71 rfl rfl (fun h68 => ?_) (fun h68 => ?_)
          · skip
            have hz : exU (hsD A kn cc f p) (a + 1) := exU_s.mpr (Or.inl h68)
            refine rq_ic 112 (nI 1) rfl (by decide) rfl ?_
            refine rq_st 116 rfl rfl ?_
            exact J116 _ (by first | exact (bI_t hz).symm | exact (bI_f hz).symm)
          · skip
            refine rq_st 72 rfl rfl ?_
            refine rq_st 73 rfl rfl ?_
            refine rq_st 75 rfl rfl ?_
            refine rq_call [_, _, _] _ 78 rfl rfl rfl rfl rfl (Nat.le_of_ble_eq_true rfl) (cats rfl) (rcv_s rfl hm2.1) (p_X7_isKnown (d + 3) hm2 (A := va_up A 12 g3) hk cc hc a (by omega)) rfl ?_
            refine rq_ifB 81 rfl rfl (fun h78 => ?_) (fun h78 => ?_)
            · skip
              have hz : ¬ exU (hsD A kn cc f p) (a + 1) := fun q => (exU_s.mp q).elim h68 (fun q => h78 q.1)
              refine rq_ic 116 (nI 0) rfl (by decide) rfl ?_
              exact J116 _ (by first | exact (bI_t hz).symm | exact (bI_f hz).symm)
            · skip
              refine rq_st 82 rfl rfl ?_
              refine rq_getf 85 rfl hm2.1 rfl rfl ?_
              refine rq_st 87 rfl rfl ?_
              refine rq_ialN 88 rfl (hm2.arU 3 (n := 96) (by decide) rfl rfl) (by omega) (by decide) rfl ?_
              refine rq_ic 89 (nI 1) rfl (by decide) rfl ?_
              refine rq_cmpI 92 rfl rfl (fun h89 => ?_) (fun h89 => ?_)
              · dsimp only [cI] at h89
                have hz : ¬ exU (hsD A kn cc f p) (a + 1) := fun q => (exU_s.mp q).elim h68 (fun q => h89 q.2.1)
                refine rq_ic 116 (nI 0) rfl (by decide) rfl ?_
                exact J116 _ (by first | exact (bI_t hz).symm | exact (bI_f hz).symm)
              · dsimp only [cI] at h89
                obtain ⟨q, dd, hq, hdd, eq, ed⟩ := hwd cc hc a (by omega) h78 (Classical.byContradiction h89)
                have hfq := hf12 q hq
                refine rq_st 93 rfl rfl ?_
                refine rq_getf 96 rfl hm2.1 rfl rfl ?_
                refine rq_st 97 rfl rfl ?_
                refine rq_getf 100 rfl hm2.1 rfl rfl ?_
                refine rq_ic 101 (nI 4) rfl (by decide) rfl ?_
                refine rq_st 103 rfl rfl ?_
                refine rq_mulN 104 rfl rfl ?_
                refine rq_ialN 105 rfl (hm2.arU 4 (n := 384) (by decide) rfl rfl) (by omega) (by decide) rfl ?_
                rw [eq]
                refine rq_ialN 106 rfl hm2.ar12 (by omega) (by decide) rfl ?_
                rw [hg q hq]
                refine rq_st 108 rfl rfl ?_
                refine rq_cmpN 111 rfl rfl (by omega) (by omega) (fun h108 => ?_) (fun h108 => ?_)
                · dsimp only [cN] at h108
                  have hz : ¬ exU (hsD A kn cc f p) (a + 1) := fun q1 => (exU_s.mp q1).elim h68 (fun ⟨_, _, q2, hq2, e2, e3⟩ => h108 (by rw [nI_inj (by omega) (by omega) (eq.symm.trans e2)]; exact e3))
                  refine rq_ic 116 (nI 0) rfl (by decide) rfl ?_
                  exact J116 _ (by first | exact (bI_t hz).symm | exact (bI_f hz).symm)
                · dsimp only [cN] at h108
                  have hz : exU (hsD A kn cc f p) (a + 1) := exU_s.mpr (Or.inr ⟨h78, Classical.byContradiction h89, q, hq, eq, by omega⟩)
                  refine rq_ic 112 (nI 1) rfl (by decide) rfl ?_
                  refine rq_st 116 rfl rfl ?_
                  exact J116 _ (by first | exact (bI_t hz).symm | exact (bI_f hz).symm)
      refine rq_st 33 rfl rfl ?_
      refine rq_bp 35 (nI 12) rfl (by decide) rfl ?_
      refine rq_cmpf 38 rfl rfl (by rw [← Bool.not_eq_true, ma_cmpN (by omega) (by omega)]; show ¬ 12 ≤ p; omega) ?_
      refine rq_st 39 rfl rfl ?_
      refine rq_getf 42 rfl hm2.1 rfl rfl ?_
      refine rq_iff 45 rfl rfl (by decide) ?_
      refine rq_st 46 rfl rfl ?_
      refine rq_st 47 rfl rfl ?_
      refine rq_st 49 rfl rfl ?_
      refine rq_st 50 rfl rfl ?_
      refine rq_callq [_, _, _, _] _ 53 rfl rfl rfl rfl rfl (Nat.le_of_ble_eq_true rfl) (cats rfl) (rcv_s rfl hm2.1) (p_X7_judge d hm2 (A := va_up A 12 g) hk cc hc p (by omega) vv hvv hdz (hwd cc hc) (hws cc hc)) rfl (fun v9 G3 hv9 => ?_)
      obtain ⟨rfl, hs3, f, g3, k, l, hg, hj, hm3⟩ := hv9
      rw [bx_uu] at hm3
      refine rq_ic 54 (nI 0) rfl (by decide) rfl ?_
      refine rq_st 56 rfl rfl ?_
      refine rq_ic 57 (nI 0) rfl (by decide) rfl ?_
      refine rq_st 59 rfl rfl ?_
      exact inner G3 f g3 k l hg hj hm3 (hs2.tr hs3) 96 0 _ (by omega) (bI_f exU_0).symm
  refine rq_st 1 rfl rfl ?_
  refine rq_st 2 rfl rfl ?_
  refine rq_ic 3 (nI 4) rfl (by decide) rfl ?_
  refine rq_call [_, _] _ 6 rfl rfl rfl rfl rfl (Nat.le_of_ble_eq_true rfl) (cats rfl) (rcv_n rfl) (p_X7_isIn (d + 3) _ 4 (by decide) _) rfl ?_
  refine rq_ifB 9 rfl rfl (fun h6 => ?_) (fun h6 => ?_)
  · skip
    exact Jb (fun q => h6 q.1)
  · skip
    refine rq_st 10 rfl rfl ?_
    refine rq_ic 11 (nI 3) rfl (by decide) rfl ?_
    refine rq_call [_, _] _ 14 rfl rfl rfl rfl rfl (Nat.le_of_ble_eq_true rfl) (cats rfl) (rcv_n rfl) (p_X7_isIn (d + 3) _ 3 (by decide) _) rfl ?_
    refine rq_ifB 17 rfl rfl (fun h14 => ?_) (fun h14 => ?_)
    · skip
      exact Jb (fun q => h14 q.2)
    · skip
      refine rq_ic 18 (nI 0) rfl (by decide) rfl ?_
      refine rq_st 22 rfl rfl ?_
      refine rq_puti 25 rfl hm.1 (Nat.le_of_ble_eq_true rfl) rfl rfl ?_
      obtain ⟨cc, hc, rfl⟩ := h6
      obtain ⟨vv, hvv, rfl⟩ := h14
      have hm1 := hm.thr (nI 0)
      refine rq_ic 26 (nI 0) rfl (by decide) rfl ?_
      refine rq_st 28 rfl rfl ?_
      refine rq_ic 29 (nI 0) rfl (by decide) rfl ?_
      refine rq_st 31 rfl rfl ?_
      exact outer cc hc vv hvv 12 0 0 _ (A 12) _ _ _ _ _ (by omega) rfl (by rw [va_up_id]; exact hm1) (sm.rf.set (mIn_0 b))
