def jlQ (b : Nat) (A : Nat → Nat → Int32) (kn : Nat → Nat → Nat) (c p v z : Nat) (f : Nat → Nat) (t : Int32) (G : ma_G) (r : Option Value) (G' : ma_G) : Prop := r = none ∧ sm (mIn b) G G' ∧ ∃ k l, jfN (fun i => A 1 (4 * v + i)) z (sl (fit A kn c f p v) (dyA A) 96) 0 (nI 0) = (k, l) ∧ k ≤ z ∧ mdl b A t (nI k) l (if k = z then l else -1) G' 
theorem day_lt {x y : Int32} {i j : Nat} (h1 : x = nI i ∧ i ≤ 40000) (h2 : y = nI j ∧ j ≤ 40000) (h : x < y) : i < j := by
  rw [h1.1, h2.1] at h
  exact (nI_ltI (by omega) (by omega)).mp h
theorem nso {F B : Nat → Prop} {dy : Nat → Nat} {day : Nat → Int32} {a : Nat} {nx : Int32} (hday : ∀ a, a < 96 → F a → day a = nI (dy a) ∧ dy a ≤ 40000) (ha : a < 96) (hnx : NX (fun x => F x ∧ B x) dy a nx) (hF : F a) (hs : ¬ ∀ x, x < 96 → nx = nI x → day a < day x) : ∃ k, k < a ∧ nx = nI k ∧ dy k ≤ dy a := by
  rcases hnx with ⟨rfl, -⟩ | ⟨k, hk, h1, h2, -⟩
  · exact absurd (fun x hx e => absurd e (nI_m1 (by omega))) hs
  · refine ⟨k, hk, h1, ?_⟩
    by_cases q : dy k ≤ dy a
    · exact q
    · refine absurd (fun x hx e => ?_) hs
      rw [h1] at e
      obtain rfl := nI_inj (by omega) (by omega) e
      have e1 := hday a ha hF
      have e2 := hday k (by omega) h2.1
      rw [e1.1, e2.1]
      exact nI_lt (by omega) (by omega)
theorem jl_loop (d : Nat) {b : Nat} {A : Nat → Nat → Int32} {t : Int32} {G : ma_G} {n : Nat → Nat} {kn : Nat → Nat → Nat} (hk : mKn A n kn) (c : Nat) (hc : c < 4) (p : Nat) (hp : p < 12) (v : Nat) (hv : v < 3) {dz : Nat → Nat} (hdz : mDz A dz) (hwd : wfD A kn c) (f : Nat → Nat) (hg : ∀ p, p < 12 → A 12 p = nI (f p)) (hf12 : ∀ q, q < 12 → f q < 12) : ∀ (N : Nat) (l : List Nat) (ld la : Int32) (k : Nat) (lt : Int32) (G2 : ma_G) (o7 o8 o9 o10 o11 o12 : Option Value), sl (fun a => fit A kn c f p v a ∧ bhI ld la (A 4 (4 * a + 3)) a) (dyA A) 96 = l → l.length < N → k ≤ dz v → jfN (fun i => A 1 (4 * v + i)) (dz v) (sl (fit A kn c f p v) (dyA A) 96) 0 (nI 0) = jfN (fun i => A 1 (4 * v + i)) (dz v) l k lt → mdl b A t (nI k) lt (if k = dz v then lt else -1) G2 → sm (mIn b) G G2 → Rq (d + 3) M_X7_judge 29 [some (.ref b), some (.int (nI c)), some (.int (nI p)), some (.int (nI v)), some (.int ld), some (.int la), some (.int (nI 1)), o7, o8, o9, o10, o11, o12] [] G2 (Qr (jlQ b A kn c p v (dz v) f t G)) := by
  have hday := fit_day (f := f) (p := p) (v := v) hwd
  intro N
  induction N with
  | zero => intro l ld la k lt G2 o7 o8 o9 o10 o11 o12 _ h; omega
  | succ N ih =>
    intro l ld la k lt G2 o7 o8 o9 o10 o11 o12 hl hN hkz hj hm2 hs2
    have J210 : ∀ (nx : Int32) (o8 o9 o10 o11 o12 : Option Value), NX (fun a => fit A kn c f p v a ∧ bhI ld la (A 4 (4 * a + 3)) a) (dyA A) 96 nx → Rq (d + 3) M_X7_judge 210 [some (.ref b), some (.int (nI c)), some (.int (nI p)), some (.int (nI v)), some (.int ld), some (.int la), some (.int (nI 1)), some (.int nx), o8, o9, o10, o11, o12] [] G2 (Qr (jlQ b A kn c p v (dz v) f t G)) := by
      intro nx o8 o9 o10 o11 o12 hnx
      rcases hnx with ⟨rfl, hno⟩ | ⟨x, hx, rfl, hx2, hx3, hx4⟩
      · skip
        refine rq_st 212 rfl rfl ?_
        refine rq_ift rfl (by decide) ?_
        refine rq_ic 220 (nI 0) rfl (by decide) rfl ?_
        refine rq_st 222 rfl rfl ?_
        refine rq_st 224 rfl rfl ?_
        refine rq_ift rfl (by decide) ?_
        refine rq_st 29 rfl rfl ?_
        refine rq_st 31 rfl rfl ?_
        refine rq_ift rfl (by decide) ?_
        exact rq_vret rfl rfl ⟨rfl, hs2, k, lt, by rw [hj, ← hl, sl_nil 96 hno]; rfl, hkz, hm2⟩
      · have hstep := bh_step hx hday hx2 hx3 hx4
        have hll := sl_first 96 hx hx2 hx3 hx4
        rw [hl] at hll
        refine rq_st 212 rfl rfl ?_
        refine rq_iff 215 rfl rfl (by rw [← Bool.not_eq_true, ma_ifN (by omega)]; show ¬ x < 0; omega) ?_
        refine rq_ic 216 (nI 1) rfl (by decide) rfl ?_
        refine rq_st 220 rfl rfl ?_
        refine rq_st 222 rfl rfl ?_
        refine rq_st 224 rfl rfl ?_
        refine rq_iff 227 rfl rfl (by decide) ?_
        refine rq_st 229 rfl rfl ?_
        refine rq_st 231 rfl rfl ?_
        refine rq_st 232 rfl rfl ?_
        refine rq_getf 235 rfl hm2.1 rfl rfl ?_
        refine rq_ic 236 (nI 4) rfl (by decide) rfl ?_
        refine rq_st 238 rfl rfl ?_
        refine rq_mulN 239 rfl rfl ?_
        refine rq_ic 240 (nI 3) rfl (by decide) rfl ?_
        refine rq_addN 241 rfl rfl ?_
        refine rq_ialN 242 rfl (hm2.arr 4 (n := 384) (by decide) rfl rfl) (by omega) (by decide) rfl ?_
        rw [(hday x hx hx2.1).1]
        refine rq_st 244 rfl rfl ?_
        refine rq_st 245 rfl rfl ?_
        refine rq_st 246 rfl rfl ?_
        refine rq_st 248 rfl rfl ?_
        refine rq_callq [_, _, _] _ 251 rfl rfl rfl rfl rfl (Nat.le_of_ble_eq_true rfl) (cats rfl) (rcv_s rfl hm2.1) (p_X7_count (d + 2) hm2 hdz (by have := hdz v hv; omega) v hv (nI (dyA A x))) rfl (fun v9 G3 hv9 => ?_)
        obtain ⟨rfl, hs3, ⟨hc3, hm3⟩ | ⟨hc3, hm3⟩⟩ := hv9
        · refine rq_st 29 rfl rfl ?_
          have hkk : k < dz v := by have := hdz v hv; rcases hc3 with h | h <;> omega
          rw [show (if k + 1 = dz v then nI (dyA A x) else if k = dz v then lt else -1) = (if k + 1 = dz v then nI (dyA A x) else -1) by rw [if_neg (show ¬ k = dz v by omega)]] at hm3
          exact ih _ (nI (dyA A x)) (nI x) (k + 1) (nI (dyA A x)) _ _ _ _ _ _ _ (sl_congr 96 hstep) (by rw [hll] at hN; simpa using hN) (by omega) (by rw [hj, hll, jfN]; exact if_pos hc3) hm3 (hs2.tr hs3)
        · refine rq_st 29 rfl rfl ?_
          exact ih _ (nI (dyA A x)) (nI x) k lt _ _ _ _ _ _ _ (sl_congr 96 hstep) (by rw [hll] at hN; simpa using hN) hkz (by rw [hj, hll, jfN]; exact if_neg hc3) hm3 (hs2.tr hs3)
    have inner : ∀ (m a : Nat) (nx : Int32) (o9 o10 o11 o12 : Option Value), a + m = 96 → NX (fun a => fit A kn c f p v a ∧ bhI ld la (A 4 (4 * a + 3)) a) (dyA A) a nx → Rq (d + 3) M_X7_judge 40 [some (.ref b), some (.int (nI c)), some (.int (nI p)), some (.int (nI v)), some (.int ld), some (.int la), some (.int (nI 1)), some (.int nx), some (.int (nI a)), o9, o10, o11, o12] [] G2 (Qr (jlQ b A kn c p v (dz v) f t G)) := by
      intro m
      induction m with
      | zero =>
        intro a nx o9 o10 o11 o12 ha hnx
        refine rq_st 42 rfl rfl ?_
        refine rq_bp 44 (nI 96) rfl (by decide) rfl ?_
        refine rq_cmpt rfl ((ma_cmpN (by omega) (by omega)).mpr (by show 96 ≤ a; omega)) ?_
        obtain rfl : a = 96 := by omega
        exact J210 _ _ _ _ _ _ hnx
      | succ m ihm =>
        intro a nx o9 o10 o11 o12 ha hnx
        have J202 : ∀ (nx2 : Int32) (o9 o10 o11 o12 : Option Value), NX (fun a => fit A kn c f p v a ∧ bhI ld la (A 4 (4 * a + 3)) a) (dyA A) (a + 1) nx2 → Rq (d + 3) M_X7_judge 202 [some (.ref b), some (.int (nI c)), some (.int (nI p)), some (.int (nI v)), some (.int ld), some (.int la), some (.int (nI 1)), some (.int nx), some (.int (nI a)), o9, o10, o11, o12] [.int nx2] G2 (Qr (jlQ b A kn c p v (dz v) f t G)) := by
          intro nx2 o9 o10 o11 o12 hnx2
          refine rq_st 204 rfl rfl ?_
          refine rq_incN 207 _ rfl rfl (nI_1 _) rfl rfl ?_
          refine rq_st 40 rfl rfl ?_
          exact ihm (a + 1) _ _ _ _ _ (by omega) hnx2
        have J178 : ∀ (u : Int32) (o12 : Option Value), u = bI (∀ x, x < 96 → nx = nI x → A 4 (4 * a + 3) < A 4 (4 * x + 3)) → Rq (d + 3) M_X7_judge 178 [some (.ref b), some (.int (nI c)), some (.int (nI p)), some (.int (nI v)), some (.int ld), some (.int la), some (.int (nI 1)), some (.int nx), some (.int (nI a)), some (.int (bI (fit A kn c f p v a))), some (.int (A 4 (4 * a + 3))), some (.int (bI (bhI ld la (A 4 (4 * a + 3)) a))), o12] [.int u] G2 (Qr (jlQ b A kn c p v (dz v) f t G)) := by
          intro u o12 hu
          subst hu
          refine rq_st 180 rfl rfl ?_
          refine rq_st 182 rfl rfl ?_
          refine rq_ifB 185 rfl rfl (fun h182 => ?_) (fun h182 => ?_)
          · skip
            refine rq_st 202 rfl rfl ?_
            first
              | exact J202 _ _ _ _ _ (NX_new hnx ⟨h182, h187⟩ (fun x hx e hFx => day_lt (hday a (by omega) h182) (hday x (by omega) hFx.1) (h192 x (by omega) e)))
              | exact J202 _ _ _ _ _ (NX_keep hnx (fun q => absurd q.1 h182) (by omega))
              | exact J202 _ _ _ _ _ (NX_keep hnx (fun q => absurd q.2 h187) (by omega))
              | exact J202 _ _ _ _ _ (NX_keep hnx (fun q => nso hday (by omega) hnx q.1 h192) (by omega))
          · skip
            refine rq_st 187 rfl rfl ?_
            refine rq_ifB 190 rfl rfl (fun h187 => ?_) (fun h187 => ?_)
            · skip
              refine rq_st 202 rfl rfl ?_
              first
                | exact J202 _ _ _ _ _ (NX_new hnx ⟨h182, h187⟩ (fun x hx e hFx => day_lt (hday a (by omega) h182) (hday x (by omega) hFx.1) (h192 x (by omega) e)))
                | exact J202 _ _ _ _ _ (NX_keep hnx (fun q => absurd q.1 h182) (by omega))
                | exact J202 _ _ _ _ _ (NX_keep hnx (fun q => absurd q.2 h187) (by omega))
                | exact J202 _ _ _ _ _ (NX_keep hnx (fun q => nso hday (by omega) hnx q.1 h192) (by omega))
            · skip
              refine rq_st 192 rfl rfl ?_
              refine rq_ifB 195 rfl rfl (fun h192 => ?_) (fun h192 => ?_)
              · skip
                refine rq_st 202 rfl rfl ?_
                first
                  | exact J202 _ _ _ _ _ (NX_new hnx ⟨h182, h187⟩ (fun x hx e hFx => day_lt (hday a (by omega) h182) (hday x (by omega) hFx.1) (h192 x (by omega) e)))
                  | exact J202 _ _ _ _ _ (NX_keep hnx (fun q => absurd q.1 h182) (by omega))
                  | exact J202 _ _ _ _ _ (NX_keep hnx (fun q => absurd q.2 h187) (by omega))
                  | exact J202 _ _ _ _ _ (NX_keep hnx (fun q => nso hday (by omega) hnx q.1 h192) (by omega))
              · skip
                refine rq_st 197 rfl rfl ?_
                refine rq_st 202 rfl rfl ?_
                first
                  | exact J202 _ _ _ _ _ (NX_new hnx ⟨h182, h187⟩ (fun x hx e hFx => day_lt (hday a (by omega) h182) (hday x (by omega) hFx.1) (h192 x (by omega) e)))
                  | exact J202 _ _ _ _ _ (NX_keep hnx (fun q => absurd q.1 h182) (by omega))
                  | exact J202 _ _ _ _ _ (NX_keep hnx (fun q => absurd q.2 h187) (by omega))
                  | exact J202 _ _ _ _ _ (NX_keep hnx (fun q => nso hday (by omega) hnx q.1 h192) (by omega))
        have J141 : ∀ (u : Int32) (o11 o12 : Option Value), u = bI (bhI ld la (A 4 (4 * a + 3)) a) → Rq (d + 3) M_X7_judge 141 [some (.ref b), some (.int (nI c)), some (.int (nI p)), some (.int (nI v)), some (.int ld), some (.int la), some (.int (nI 1)), some (.int nx), some (.int (nI a)), some (.int (bI (fit A kn c f p v a))), some (.int (A 4 (4 * a + 3))), o11, o12] [.int u] G2 (Qr (jlQ b A kn c p v (dz v) f t G)) := by
          intro u o11 o12 hu
          subst hu
          rcases hnx with ⟨rfl, hno⟩ | ⟨x, hx, rfl, hx2, hx3, hx4⟩
          · skip
            refine rq_st 143 rfl rfl ?_
            refine rq_st 145 rfl rfl ?_
            refine rq_ift rfl (by decide) ?_
            refine rq_ic 174 (nI 1) rfl (by decide) rfl ?_
            refine rq_st 178 rfl rfl ?_
            exact J178 _ _ (bI_t (fun x hx h => absurd h (nI_m1 (by omega)))).symm
          · skip
            refine rq_st 143 rfl rfl ?_
            refine rq_st 145 rfl rfl ?_
            refine rq_iff 148 rfl rfl (by rw [← Bool.not_eq_true, ma_ifN (by omega)]; show ¬ x < 0; omega) ?_
            refine rq_st 150 rfl rfl ?_
            refine rq_st 151 rfl rfl ?_
            refine rq_getf 154 rfl hm2.1 rfl rfl ?_
            refine rq_ic 155 (nI 4) rfl (by decide) rfl ?_
            refine rq_st 157 rfl rfl ?_
            refine rq_ift rfl ((ma_ifN (by omega)).mpr (by show 0 ≤ x; omega)) ?_
            refine rq_st 166 rfl rfl ?_
            refine rq_mulN 167 rfl rfl ?_
            refine rq_ic 168 (nI 3) rfl (by decide) rfl ?_
            refine rq_addN 169 rfl rfl ?_
            refine rq_ialN 170 rfl (hm2.arr 4 (n := 384) (by decide) rfl rfl) (by omega) (by decide) rfl ?_
            refine rq_cmpI 173 rfl rfl (fun h170 => ?_) (fun h170 => ?_)
            · dsimp only [cI] at h170
              have hz : ¬ (∀ x1, x1 < 96 → nI x = nI x1 → A 4 (4 * a + 3) < A 4 (4 * x1 + 3)) := fun q => absurd (q x (by omega) rfl) (Int32.not_lt.mpr h170)
              refine rq_ic 178 (nI 0) rfl (by decide) rfl ?_
              exact J178 _ _ (by first | exact (bI_t hz).symm | exact (bI_f hz).symm)
            · dsimp only [cI] at h170
              have hz : (∀ x1, x1 < 96 → nI x = nI x1 → A 4 (4 * a + 3) < A 4 (4 * x1 + 3)) := fun x1 hx1 e => by rw [← nI_inj (by omega) (by omega) e]; exact Int32.not_le.mp h170
              refine rq_ic 174 (nI 1) rfl (by decide) rfl ?_
              refine rq_st 178 rfl rfl ?_
              exact J178 _ _ (by first | exact (bI_t hz).symm | exact (bI_f hz).symm)
        have J100 : ∀ (u : Int32), u = bI (fit A kn c f p v a) → Rq (d + 3) M_X7_judge 100 [some (.ref b), some (.int (nI c)), some (.int (nI p)), some (.int (nI v)), some (.int ld), some (.int la), some (.int (nI 1)), some (.int nx), some (.int (nI a)), o9, o10, o11, o12] [.int u] G2 (Qr (jlQ b A kn c p v (dz v) f t G)) := by
          intro u hu
          subst hu
          refine rq_st 102 rfl rfl ?_
          refine rq_st 103 rfl rfl ?_
          refine rq_getf 106 rfl hm2.1 rfl rfl ?_
          refine rq_ic 107 (nI 4) rfl (by decide) rfl ?_
          refine rq_st 109 rfl rfl ?_
          refine rq_mulN 110 rfl rfl ?_
          refine rq_ic 111 (nI 3) rfl (by decide) rfl ?_
          refine rq_addN 112 rfl rfl ?_
          refine rq_ialN 113 rfl (hm2.arr 4 (n := 384) (by decide) rfl rfl) (by omega) (by decide) rfl ?_
          refine rq_st 115 rfl rfl ?_
          refine rq_st 117 rfl rfl ?_
          refine rq_st 119 rfl rfl ?_
          refine rq_cmpI 122 rfl rfl (fun h119 => ?_) (fun h119 => ?_)
          · dsimp only [cI] at h119
            have hz : (bhI ld la (A 4 (4 * a + 3)) a) := Or.inl h119
            refine rq_ic 137 (nI 1) rfl (by decide) rfl ?_
            refine rq_st 141 rfl rfl ?_
            exact J141 _ _ _ (by first | exact (bI_t hz).symm | exact (bI_f hz).symm)
          · dsimp only [cI] at h119
            refine rq_st 124 rfl rfl ?_
            refine rq_st 126 rfl rfl ?_
            refine rq_cmpI 129 rfl rfl (fun h126 => ?_) (fun h126 => ?_)
            · dsimp only [cI] at h126
              have hz : ¬ (bhI ld la (A 4 (4 * a + 3)) a) := fun q => q.elim h119 (fun q => h126 q.1)
              refine rq_ic 141 (nI 0) rfl (by decide) rfl ?_
              exact J141 _ _ _ (by first | exact (bI_t hz).symm | exact (bI_f hz).symm)
            · dsimp only [cI] at h126
              refine rq_st 131 rfl rfl ?_
              refine rq_st 133 rfl rfl ?_
              refine rq_cmpI 136 rfl rfl (fun h133 => ?_) (fun h133 => ?_)
              · dsimp only [cI] at h133
                have hz : ¬ (bhI ld la (A 4 (4 * a + 3)) a) := fun q => q.elim h119 (fun q => absurd q.2 (Int32.not_lt.mpr h133))
                refine rq_ic 141 (nI 0) rfl (by decide) rfl ?_
                exact J141 _ _ _ (by first | exact (bI_t hz).symm | exact (bI_f hz).symm)
              · dsimp only [cI] at h133
                have hz : (bhI ld la (A 4 (4 * a + 3)) a) := Or.inr ⟨Classical.byContradiction h126, Int32.not_le.mp h133⟩
                refine rq_ic 137 (nI 1) rfl (by decide) rfl ?_
                refine rq_st 141 rfl rfl ?_
                exact J141 _ _ _ (by first | exact (bI_t hz).symm | exact (bI_f hz).symm)
        refine rq_st 42 rfl rfl ?_
        refine rq_bp 44 (nI 96) rfl (by decide) rfl ?_
        refine rq_cmpf 47 rfl rfl (by rw [← Bool.not_eq_true, ma_cmpN (by omega) (by omega)]; show ¬ 96 ≤ a; omega) ?_
        refine rq_st 48 rfl rfl ?_
        refine rq_st 49 rfl rfl ?_
        refine rq_st 51 rfl rfl ?_
        refine rq_call [_, _, _] _ 54 rfl rfl rfl rfl rfl (Nat.le_of_ble_eq_true rfl) (cats rfl) (rcv_s rfl hm2.1) (p_X7_isValid d hm2 hk c hc a (by omega)) rfl ?_
        refine rq_ifB 57 rfl rfl (fun h54 => ?_) (fun h54 => ?_)
        · skip
          have hz : ¬ (fit A kn c f p v a) := fun q => h54 q.1
          refine rq_ic 100 (nI 0) rfl (by decide) rfl ?_
          exact J100 _ (by first | exact (bI_t hz).symm | exact (bI_f hz).symm)
        · skip
          obtain ⟨q, dd, hq, hdd, eq, ed⟩ := hwd a (by omega) h54.1.1 h54.1.2
          have hfq := hf12 q hq
          have hfp := hf12 p hp
          refine rq_st 58 rfl rfl ?_
          refine rq_getf 61 rfl hm2.1 rfl rfl ?_
          refine rq_st 62 rfl rfl ?_
          refine rq_getf 65 rfl hm2.1 rfl rfl ?_
          refine rq_ic 66 (nI 4) rfl (by decide) rfl ?_
          refine rq_st 68 rfl rfl ?_
          refine rq_mulN 69 rfl rfl ?_
          refine rq_ialN 70 rfl (hm2.arr 4 (n := 384) (by decide) rfl rfl) (by omega) (by decide) rfl ?_
          rw [eq]
          refine rq_ialN 71 rfl (hm2.arr 12 (n := 12) (by decide) rfl rfl) (by omega) (by decide) rfl ?_
          rw [hg q hq]
          refine rq_st 72 rfl rfl ?_
          refine rq_getf 75 rfl hm2.1 rfl rfl ?_
          refine rq_st 76 rfl rfl ?_
          refine rq_ialN 77 rfl (hm2.arr 12 (n := 12) (by decide) rfl rfl) (by omega) (by decide) rfl ?_
          rw [hg p hp]
          refine rq_cmpN 80 rfl rfl (by omega) (by omega) (fun h77 => ?_) (fun h77 => ?_)
          · dsimp only [cN] at h77
            have hz : ¬ (fit A kn c f p v a) := fun ⟨_, ⟨q2, hq2, e2, e3⟩, _⟩ => h77 (by rw [nI_inj (by omega) (by omega) (eq.symm.trans e2)]; exact e3)
            refine rq_ic 100 (nI 0) rfl (by decide) rfl ?_
            exact J100 _ (by first | exact (bI_t hz).symm | exact (bI_f hz).symm)
          · dsimp only [cN] at h77
            refine rq_st 81 rfl rfl ?_
            refine rq_getf 84 rfl hm2.1 rfl rfl ?_
            refine rq_ic 85 (nI 4) rfl (by decide) rfl ?_
            refine rq_st 87 rfl rfl ?_
            refine rq_mulN 88 rfl rfl ?_
            refine rq_ic 89 (nI 1) rfl (by decide) rfl ?_
            refine rq_addN 90 rfl rfl ?_
            refine rq_ialN 91 rfl (hm2.arr 4 (n := 384) (by decide) rfl rfl) (by omega) (by decide) rfl ?_
            refine rq_st 92 rfl rfl ?_
            refine rq_cmpI 95 rfl rfl (fun h92 => ?_) (fun h92 => ?_)
            · dsimp only [cI] at h92
              have hz : ¬ (fit A kn c f p v a) := fun q => h92 q.2.2
              refine rq_ic 100 (nI 0) rfl (by decide) rfl ?_
              exact J100 _ (by first | exact (bI_t hz).symm | exact (bI_f hz).symm)
            · dsimp only [cI] at h92
              have hz : (fit A kn c f p v a) := ⟨h54, ⟨q, hq, eq, by omega⟩, Classical.byContradiction h92⟩
              refine rq_ic 96 (nI 1) rfl (by decide) rfl ?_
              refine rq_st 100 rfl rfl ?_
              exact J100 _ (by first | exact (bI_t hz).symm | exact (bI_f hz).symm)
    refine rq_st 31 rfl rfl ?_
    refine rq_iff 34 rfl rfl (by decide) ?_
    refine rq_ic 35 (-1) rfl (by decide) rfl ?_
    refine rq_st 37 rfl rfl ?_
    refine rq_ic 38 (nI 0) rfl (by decide) rfl ?_
    refine rq_st 40 rfl rfl ?_
    exact inner 96 0 _ _ _ _ _ (by omega) NX_0
