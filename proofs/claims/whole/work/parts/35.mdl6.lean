/-- one below m has P -/
def exU (P : Nat → Prop) (m : Nat) : Prop := ∃ a, a < m ∧ P a
theorem exU_0 {P : Nat → Prop} : ¬ exU P 0 := fun ⟨k, h, _⟩ => absurd h (Nat.not_lt_zero k)
theorem exU_s {P : Nat → Prop} {m : Nat} : exU P (m + 1) ↔ exU P m ∨ P m := by
  constructor
  · rintro ⟨k, h1, h2⟩
    by_cases hk : k = m
    · subst hk; exact Or.inr h2
    · exact Or.inl ⟨k, by omega, h2⟩
  · rintro (⟨k, h1, h2⟩ | h)
    · exact ⟨k, by omega, h2⟩
    · exact ⟨m, by omega, h⟩
def wiQ (b : Nat) (A : Nat → Nat → Int32) (kn : Nat → Nat → Nat) (cn lt gd : Int32) (G : ma_G) (c p : Int32) (r : Option Value) (G' : ma_G) : Prop := sm (mIn b) G G' ∧ (∃ g, mdl b (va_up A 12 g) (nI 0) cn lt gd G') ∧ ((¬ (inN c 4 ∧ inN p 12) ∧ r = some (.int (-1))) ∨ ∃ cc pp f, cc < 4 ∧ pp < 12 ∧ c = nI cc ∧ p = nI pp ∧ isNm A kn cc f ∧ r = some (.int (nI (f pp))))
theorem p_X7_whoIs (d : Nat) {b : Nat} {A : Nat → Nat → Int32} {t cn lt gd : Int32} {G : ma_G} (hm : mdl b A t cn lt gd G) {n : Nat → Nat} {kn : Nat → Nat → Nat} (hk : mKn A n kn) (hwf : ∀ c, c < 4 → wfS A kn c) (c p : Int32) : Cq (d + 2) 131 [.ref b, .int c, .int p] G (wiQ b A kn cn lt gd G c p) := by
  refine cq_of rfl ?_
  refine rq_st 1 rfl rfl ?_
  refine rq_ic 2 (nI 0) rfl (by decide) rfl ?_
  refine rq_puti 5 rfl hm.1 (Nat.le_of_ble_eq_true rfl) rfl rfl ?_
  have hm1 := hm.thr (nI 0)
  refine rq_st 6 rfl rfl ?_
  refine rq_ic 7 (nI 4) rfl (by decide) rfl ?_
  refine rq_call [_, _] _ 10 rfl rfl rfl rfl rfl (Nat.le_of_ble_eq_true rfl) (cats rfl) (rcv_n rfl) (p_X7_isIn d _ 4 (by decide) _) rfl ?_
  refine rq_ifB 13 rfl rfl (fun h10 => ?_) (fun h10 => ?_)
  · skip
    have hz : ¬ (inN c 4 ∧ inN p 12) := fun q => h10 q.1
    refine rq_ic 23 (-1) rfl (by decide) rfl ?_
    exact rq_iret rfl rfl rfl ⟨sm.rf.set (mIn_0 b), ⟨A 12, by rw [va_up_id]; exact hm1⟩, Or.inl ⟨hz, rfl⟩⟩
  · skip
    refine rq_st 14 rfl rfl ?_
    refine rq_bp 16 (nI 12) rfl (by decide) rfl ?_
    refine rq_call [_, _] _ 19 rfl rfl rfl rfl rfl (Nat.le_of_ble_eq_true rfl) (cats rfl) (rcv_n rfl) (p_X7_isIn d _ 12 (by decide) _) rfl ?_
    refine rq_ifnB 22 rfl rfl (fun h19 => ?_) (fun h19 => ?_)
    · skip
      obtain ⟨cc, hc, rfl⟩ := h10
      obtain ⟨pp, hp, rfl⟩ := h19
      refine rq_st 25 rfl rfl ?_
      refine rq_st 26 rfl rfl ?_
      refine rq_callq [_, _] _ 29 rfl rfl rfl rfl rfl (Nat.le_of_ble_eq_true rfl) (cats rfl) (rcv_s rfl hm1.1) (p_X7_names d hm1 hk cc hc (hwf cc hc)) rfl (fun v G1 hv => ?_)
      obtain ⟨rfl, f, g, hg, hf, hm2, hs2⟩ := hv
      refine rq_st 30 rfl rfl ?_
      refine rq_getf 33 rfl hm2.1 rfl rfl ?_
      refine rq_st 34 rfl rfl ?_
      refine rq_ialN 35 rfl hm2.ar12 (by omega) (by decide) rfl ?_
      rw [hg pp hp]
      exact rq_iret rfl rfl rfl ⟨(sm.rf.set (mIn_0 b)).tr hs2, ⟨g, hm2⟩, Or.inr ⟨cc, pp, f, hc, hp, rfl, rfl, hf, rfl⟩⟩
    · skip
      have hz : ¬ (inN c 4 ∧ inN p 12) := fun q => h19 q.2
      refine rq_ic 23 (-1) rfl (by decide) rfl ?_
      exact rq_iret rfl rfl rfl ⟨sm.rf.set (mIn_0 b), ⟨A 12, by rw [va_up_id]; exact hm1⟩, Or.inl ⟨hz, rfl⟩⟩
def loD (A : Nat → Nat → Int32) (kn : Nat → Nat → Nat) (c p : Nat) (lot : Int32) (a : Nat) : Prop := isK kn c a ∧ A 3 a = nI 1 ∧ A 4 (4 * a) = nI p ∧ A 4 (4 * a + 2) = lot
def lo1 (A : Nat → Nat → Int32) (kn : Nat → Nat → Nat) (c p : Nat) (lot : Int32) (a : Nat) : Prop := loD A kn c p lot a ∧ ¬ strk A (a / 24) (nI (a % 24)) (kn c (a / 24))
def loE (A : Nat → Nat → Int32) (kn : Nat → Nat → Nat) (c : Nat) (lot : Int32) (p : Nat) : Prop := exU (lo1 A kn c p lot) 96
/-- the i-th that has P, from p on, n having been before -/
noncomputable def lfN (P : Nat → Prop) (i : Int32) : Nat → Nat → Nat → Int32
  | 0, _, _ => -1
  | m + 1, p, n => @ite _ (P p) (Classical.propDecidable _) (if nI n = i then nI p else lfN P i m (p + 1) (n + 1)) (lfN P i m (p + 1) n)
theorem lfN_n {P : Nat → Prop} {i : Int32} {m p n : Nat} (h : ¬ P p) : lfN P i (m + 1) p n = lfN P i m (p + 1) n := by rw [lfN, if_neg h]
theorem lfN_y {P : Nat → Prop} {i : Int32} {m p n : Nat} (h : P p) (hi : nI n = i) : lfN P i (m + 1) p n = nI p := by rw [lfN, if_pos h, if_pos hi]
theorem lfN_g {P : Nat → Prop} {i : Int32} {m p n : Nat} (h : P p) (hi : ¬ nI n = i) : lfN P i (m + 1) p n = lfN P i m (p + 1) (n + 1) := by rw [lfN, if_pos h, if_neg hi]
theorem lfN_lo {P : Nat → Prop} {i : Int32} (hi : i < 0) : ∀ m p n : Nat, n + m < 2 ^ 31 → lfN P i m p n = -1 := by
  intro m
  induction m with
  | zero => intro p n _; rfl
  | succ m ih =>
    intro p n hn
    by_cases h : P p
    · rw [lfN_g h (fun q => by subst q; exact nI_pos (by omega) hi)]; exact ih _ _ (by omega)
    · rw [lfN_n h]; exact ih _ _ (by omega)
def llP (A : Nat → Nat → Int32) (kn : Nat → Nat → Nat) (c lot i v : Int32) : Prop := (¬ (inN c 4 ∧ inN lot 10) ∧ v = -1) ∨ ∃ cc, cc < 4 ∧ c = nI cc ∧ inN lot 10 ∧ v = lfN (loE A kn cc lot) i 12 0 0
theorem p_X7_lotList (d : Nat) {b : Nat} {A : Nat → Nat → Int32} {t cn lt gd : Int32} {G : ma_G} (hm : mdl b A t cn lt gd G) {n : Nat → Nat} {kn : Nat → Nat → Nat} (hk : mKn A n kn) (c lot i : Int32) : Cq (d + 2) 130 [.ref b, .int c, .int lot, .int i] G (rdQ b A cn lt gd G (llP A kn c lot i)) := by
  refine cq_of rfl ?_
  have outer : ∀ cc, cc < 4 → inN lot 10 → ∀ (m p n1 : Nat) (o6 o7 o8 : Option Value), p + m = 12 → n1 ≤ p → lfN (loE A kn cc lot) i 12 0 0 = lfN (loE A kn cc lot) i m p n1 → Rq (d + 1) M_X7_lotList 30 [some (.ref b), some (.int (nI cc)), some (.int lot), some (.int i), some (.int (nI n1)), some (.int (nI p)), o6, o7, o8] [] (G.set b (.inr (7, (mFs b t cn lt gd).set 0 (.int (nI 0))))) (Qr (rdQ b A cn lt gd G (llP A kn (nI cc) lot i))) := by
    intro cc hc hlot m
    have hm1 := hm.thr (nI 0)
    induction m with
    | zero =>
      intro p n1 o6 o7 o8 hp hn1 hv
      refine rq_st 32 rfl rfl ?_
      refine rq_bp 34 (nI 12) rfl (by decide) rfl ?_
      refine rq_cmpt rfl ((ma_cmpN (by omega) (by omega)).mpr (by show 12 ≤ p; omega)) ?_
      refine rq_ic 197 (-1) rfl (by decide) rfl ?_
      exact rq_iret rfl rfl rfl ⟨sm.rf.set (mIn_0 b), hm1, _, rfl, Or.inr ⟨cc, hc, rfl, hlot, hv.symm⟩⟩
    | succ m ih =>
      intro p n1 o6 o7 o8 hp hn1 hv
      have J187 : ∀ (z : Nat) (o6 o7 o8 : Option Value), z ≤ 1 → lfN (loE A kn cc lot) i (m + 1) p n1 = lfN (loE A kn cc lot) i m (p + 1) (n1 + z) → Rq (d + 1) M_X7_lotList 187 [some (.ref b), some (.int (nI cc)), some (.int lot), some (.int i), some (.int (nI n1)), some (.int (nI p)), o6, o7, o8] [.int (nI z), .int (nI n1)] (G.set b (.inr (7, (mFs b t cn lt gd).set 0 (.int (nI 0))))) (Qr (rdQ b A cn lt gd G (llP A kn (nI cc) lot i))) := by
        intro z o6 o7 o8 hz1 hz
        refine rq_addN 188 rfl rfl ?_
        refine rq_st 190 rfl rfl ?_
        refine rq_incN 193 _ rfl rfl (nI_1 _) rfl rfl ?_
        refine rq_st 30 rfl rfl ?_
        exact ih (p + 1) (n1 + z) _ _ _ (by omega) (by omega) (hv.trans hz)
      have inner : ∀ (m a : Nat) (w : Int32) (o8 : Option Value), a + m = 96 → w = bI (exU (lo1 A kn cc p lot) a) → Rq (d + 1) M_X7_lotList 43 [some (.ref b), some (.int (nI cc)), some (.int lot), some (.int i), some (.int (nI n1)), some (.int (nI p)), some (.int w), some (.int (nI a)), o8] [] (G.set b (.inr (7, (mFs b t cn lt gd).set 0 (.int (nI 0))))) (Qr (rdQ b A cn lt gd G (llP A kn (nI cc) lot i))) := by
        intro m
        induction m with
        | zero =>
          intro a w o8 ha hw
          refine rq_st 45 rfl rfl ?_
          refine rq_bp 47 (nI 96) rfl (by decide) rfl ?_
          refine rq_cmpt rfl ((ma_cmpN (by omega) (by omega)).mpr (by show 96 ≤ a; omega)) ?_
          obtain rfl : a = 96 := by omega
          subst hw
          refine rq_st 163 rfl rfl ?_
          refine rq_ifB 166 rfl rfl (fun h163 => ?_) (fun h163 => ?_)
          · skip
            refine rq_st 177 rfl rfl ?_
            refine rq_st 179 rfl rfl ?_
            refine rq_ifB 182 rfl rfl (fun h179 => ?_) (fun h179 => ?_)
            · skip
              refine rq_ic 187 (nI 0) rfl (by decide) rfl ?_
              first | exact J187 1 _ _ _ (by decide) (by rw [lfN_g (P := loE A kn cc lot) h163 h169]) | exact J187 0 _ _ _ (by decide) (by rw [lfN_n (P := loE A kn cc lot) h163]; rfl) | exact absurd h179 h163 | exact absurd h163 h179
            · skip
              refine rq_ic 183 (nI 1) rfl (by decide) rfl ?_
              refine rq_st 187 rfl rfl ?_
              first | exact J187 1 _ _ _ (by decide) (by rw [lfN_g (P := loE A kn cc lot) h163 h169]) | exact J187 0 _ _ _ (by decide) (by rw [lfN_n (P := loE A kn cc lot) h163]; rfl) | exact absurd h179 h163 | exact absurd h163 h179
          · skip
            refine rq_st 168 rfl rfl ?_
            refine rq_st 169 rfl rfl ?_
            refine rq_cmpI 172 rfl rfl (fun h169 => ?_) (fun h169 => ?_)
            · dsimp only [cI] at h169
              skip
              refine rq_st 177 rfl rfl ?_
              refine rq_st 179 rfl rfl ?_
              refine rq_ifB 182 rfl rfl (fun h179 => ?_) (fun h179 => ?_)
              · skip
                refine rq_ic 187 (nI 0) rfl (by decide) rfl ?_
                first | exact J187 1 _ _ _ (by decide) (by rw [lfN_g (P := loE A kn cc lot) h163 h169]) | exact J187 0 _ _ _ (by decide) (by rw [lfN_n (P := loE A kn cc lot) h163]; rfl) | exact absurd h179 h163 | exact absurd h163 h179
              · skip
                refine rq_ic 183 (nI 1) rfl (by decide) rfl ?_
                refine rq_st 187 rfl rfl ?_
                first | exact J187 1 _ _ _ (by decide) (by rw [lfN_g (P := loE A kn cc lot) h163 h169]) | exact J187 0 _ _ _ (by decide) (by rw [lfN_n (P := loE A kn cc lot) h163]; rfl) | exact absurd h179 h163 | exact absurd h163 h179
            · dsimp only [cI] at h169
              refine rq_st 174 rfl rfl ?_
              exact rq_iret rfl rfl rfl ⟨sm.rf.set (mIn_0 b), hm1, _, rfl, Or.inr ⟨cc, hc, rfl, hlot, by rw [hv, lfN_y (P := loE A kn cc lot) h163 (Classical.byContradiction h169)]⟩⟩
        | succ m ihm =>
          intro a w o8 ha hw
          have J153 : ∀ (w' : Int32) (o8 : Option Value), w' = bI (exU (lo1 A kn cc p lot) (a + 1)) → Rq (d + 1) M_X7_lotList 153 [some (.ref b), some (.int (nI cc)), some (.int lot), some (.int i), some (.int (nI n1)), some (.int (nI p)), some (.int w), some (.int (nI a)), o8] [.int w'] (G.set b (.inr (7, (mFs b t cn lt gd).set 0 (.int (nI 0))))) (Qr (rdQ b A cn lt gd G (llP A kn (nI cc) lot i))) := by
            intro w' o8 hw'
            refine rq_st 155 rfl rfl ?_
            refine rq_incN 158 _ rfl rfl (nI_1 _) rfl rfl ?_
            refine rq_st 43 rfl rfl ?_
            exact ihm (a + 1) _ _ (by omega) hw'
          have J105 : ∀ w' : Int32, w' = bI (loD A kn cc p lot a) → Rq (d + 1) M_X7_lotList 105 [some (.ref b), some (.int (nI cc)), some (.int lot), some (.int i), some (.int (nI n1)), some (.int (nI p)), some (.int w), some (.int (nI a)), o8] [.int w'] (G.set b (.inr (7, (mFs b t cn lt gd).set 0 (.int (nI 0))))) (Qr (rdQ b A cn lt gd G (llP A kn (nI cc) lot i))) := by
            intro w' hw'
            subst hw'
            subst hw
            refine rq_st 107 rfl rfl ?_
            refine rq_st 109 rfl rfl ?_
            refine rq_ifnB 112 rfl rfl (fun h109 => ?_) (fun h109 => ?_)
            · skip
              have hz : exU (lo1 A kn cc p lot) (a + 1) := exU_s.mpr (Or.inl h109)
              refine rq_ic 149 (nI 1) rfl (by decide) rfl ?_
              refine rq_st 153 rfl rfl ?_
              exact J153 _ _ (by first | exact (bI_t hz).symm | exact (bI_f hz).symm)
            · skip
              refine rq_st 114 rfl rfl ?_
              refine rq_ifB 117 rfl rfl (fun h114 => ?_) (fun h114 => ?_)
              · skip
                have hz : ¬ exU (lo1 A kn cc p lot) (a + 1) := fun q => (exU_s.mp q).elim h109 (fun q => h114 q.1)
                refine rq_ic 153 (nI 0) rfl (by decide) rfl ?_
                exact J153 _ _ (by first | exact (bI_t hz).symm | exact (bI_f hz).symm)
              · skip
                refine rq_st 118 rfl rfl ?_
                refine rq_st 120 rfl rfl ?_
                refine rq_bp 122 (nI 24) rfl (by decide) rfl ?_
                refine rq_divN 123 rfl (by omega) (by decide) (by decide) rfl ?_
                refine rq_st 125 rfl rfl ?_
                refine rq_bp 127 (nI 24) rfl (by decide) rfl ?_
                refine rq_remN 128 rfl (by omega) (by decide) (by decide) rfl ?_
                refine rq_st 129 rfl rfl ?_
                refine rq_getf 132 rfl hm1.1 rfl rfl ?_
                refine rq_ic 133 (nI 4) rfl (by decide) rfl ?_
                refine rq_st 134 rfl rfl ?_
                refine rq_mulN 135 rfl rfl ?_
                refine rq_st 137 rfl rfl ?_
                refine rq_bp 139 (nI 24) rfl (by decide) rfl ?_
                refine rq_divN 140 rfl (by omega) (by decide) (by decide) rfl ?_
                refine rq_addN 141 rfl rfl ?_
                refine rq_ialN 142 rfl (hm1.arr 5 (n := 16) (by decide) rfl rfl) (by omega) (by decide) rfl ?_
                rw [(hk.2 cc (a / 24) hc (by omega)).1]
                refine rq_call [_, _, _, _] _ 145 rfl rfl rfl rfl rfl (Nat.le_of_ble_eq_true rfl) (cats rfl) (rcv_s rfl hm1.1) (p_X7_isStruck d hm1 (a / 24) (by omega) (nI (a % 24)) (kn cc (a / 24)) (hk.le hc (by omega))) rfl ?_
                refine rq_ifnB 148 rfl rfl (fun h145 => ?_) (fun h145 => ?_)
                · skip
                  have hz : ¬ exU (lo1 A kn cc p lot) (a + 1) := fun q => (exU_s.mp q).elim h109 (fun q => q.2 h145)
                  refine rq_ic 153 (nI 0) rfl (by decide) rfl ?_
                  exact J153 _ _ (by first | exact (bI_t hz).symm | exact (bI_f hz).symm)
                · skip
                  have hz : exU (lo1 A kn cc p lot) (a + 1) := exU_s.mpr (Or.inr ⟨h114, h145⟩)
                  refine rq_ic 149 (nI 1) rfl (by decide) rfl ?_
                  refine rq_st 153 rfl rfl ?_
                  exact J153 _ _ (by first | exact (bI_t hz).symm | exact (bI_f hz).symm)
          refine rq_st 45 rfl rfl ?_
          refine rq_bp 47 (nI 96) rfl (by decide) rfl ?_
          refine rq_cmpf 50 rfl rfl (by rw [← Bool.not_eq_true, ma_cmpN (by omega) (by omega)]; show ¬ 96 ≤ a; omega) ?_
          refine rq_st 51 rfl rfl ?_
          refine rq_st 52 rfl rfl ?_
          refine rq_st 54 rfl rfl ?_
          refine rq_call [_, _, _] _ 57 rfl rfl rfl rfl rfl (Nat.le_of_ble_eq_true rfl) (cats rfl) (rcv_s rfl hm1.1) (p_X7_isKnown d hm1 hk cc hc a (by omega)) rfl ?_
          refine rq_ifB 60 rfl rfl (fun h57 => ?_) (fun h57 => ?_)
          · skip
            have hz : ¬ loD A kn cc p lot a := fun q => h57 q.1
            refine rq_ic 105 (nI 0) rfl (by decide) rfl ?_
            exact J105 _ (by first | exact (bI_t hz).symm | exact (bI_f hz).symm)
          · skip
            refine rq_st 61 rfl rfl ?_
            refine rq_getf 64 rfl hm1.1 rfl rfl ?_
            refine rq_st 66 rfl rfl ?_
            refine rq_ialN 67 rfl (hm1.arr 3 (n := 96) (by decide) rfl rfl) (by omega) (by decide) rfl ?_
            refine rq_ic 68 (nI 1) rfl (by decide) rfl ?_
            refine rq_cmpI 71 rfl rfl (fun h68 => ?_) (fun h68 => ?_)
            · dsimp only [cI] at h68
              have hz : ¬ loD A kn cc p lot a := fun q => h68 q.2.1
              refine rq_ic 105 (nI 0) rfl (by decide) rfl ?_
              exact J105 _ (by first | exact (bI_t hz).symm | exact (bI_f hz).symm)
            · dsimp only [cI] at h68
              refine rq_st 72 rfl rfl ?_
              refine rq_getf 75 rfl hm1.1 rfl rfl ?_
              refine rq_ic 76 (nI 4) rfl (by decide) rfl ?_
              refine rq_st 78 rfl rfl ?_
              refine rq_mulN 79 rfl rfl ?_
              refine rq_ialN 80 rfl (hm1.arr 4 (n := 384) (by decide) rfl rfl) (by omega) (by decide) rfl ?_
              refine rq_st 82 rfl rfl ?_
              refine rq_cmpI 85 rfl rfl (fun h82 => ?_) (fun h82 => ?_)
              · dsimp only [cI] at h82
                have hz : ¬ loD A kn cc p lot a := fun q => h82 q.2.2.1
                refine rq_ic 105 (nI 0) rfl (by decide) rfl ?_
                exact J105 _ (by first | exact (bI_t hz).symm | exact (bI_f hz).symm)
              · dsimp only [cI] at h82
                refine rq_st 86 rfl rfl ?_
                refine rq_getf 89 rfl hm1.1 rfl rfl ?_
                refine rq_ic 90 (nI 4) rfl (by decide) rfl ?_
                refine rq_st 92 rfl rfl ?_
                refine rq_mulN 93 rfl rfl ?_
                refine rq_ic 94 (nI 2) rfl (by decide) rfl ?_
                refine rq_addN 95 rfl rfl ?_
                refine rq_ialN 96 rfl (hm1.arr 4 (n := 384) (by decide) rfl rfl) (by omega) (by decide) rfl ?_
                refine rq_st 97 rfl rfl ?_
                refine rq_cmpI 100 rfl rfl (fun h97 => ?_) (fun h97 => ?_)
                · dsimp only [cI] at h97
                  have hz : ¬ loD A kn cc p lot a := fun q => h97 q.2.2.2
                  refine rq_ic 105 (nI 0) rfl (by decide) rfl ?_
                  exact J105 _ (by first | exact (bI_t hz).symm | exact (bI_f hz).symm)
                · dsimp only [cI] at h97
                  have hz : loD A kn cc p lot a := ⟨h57, Classical.byContradiction h68, Classical.byContradiction h82, Classical.byContradiction h97⟩
                  refine rq_ic 101 (nI 1) rfl (by decide) rfl ?_
                  refine rq_st 105 rfl rfl ?_
                  exact J105 _ (by first | exact (bI_t hz).symm | exact (bI_f hz).symm)
      refine rq_st 32 rfl rfl ?_
      refine rq_bp 34 (nI 12) rfl (by decide) rfl ?_
      refine rq_cmpf 37 rfl rfl (by rw [← Bool.not_eq_true, ma_cmpN (by omega) (by omega)]; show ¬ 12 ≤ p; omega) ?_
      refine rq_ic 38 (nI 0) rfl (by decide) rfl ?_
      refine rq_st 40 rfl rfl ?_
      refine rq_ic 41 (nI 0) rfl (by decide) rfl ?_
      refine rq_st 43 rfl rfl ?_
      exact inner 96 0 _ _ (by omega) (bI_f exU_0).symm
  refine rq_st 1 rfl rfl ?_
  refine rq_ic 2 (nI 0) rfl (by decide) rfl ?_
  refine rq_puti 5 rfl hm.1 (Nat.le_of_ble_eq_true rfl) rfl rfl ?_
  have hm1 := hm.thr (nI 0)
  refine rq_st 6 rfl rfl ?_
  refine rq_ic 7 (nI 4) rfl (by decide) rfl ?_
  refine rq_call [_, _] _ 10 rfl rfl rfl rfl rfl (Nat.le_of_ble_eq_true rfl) (cats rfl) (rcv_n rfl) (p_X7_isIn d _ 4 (by decide) _) rfl ?_
  refine rq_ifB 13 rfl rfl (fun h10 => ?_) (fun h10 => ?_)
  · skip
    have hz : ¬ (inN c 4 ∧ inN lot 10) := fun q => h10 q.1
    refine rq_ic 23 (-1) rfl (by decide) rfl ?_
    exact rq_iret rfl rfl rfl ⟨sm.rf.set (mIn_0 b), hm1, _, rfl, Or.inl ⟨hz, rfl⟩⟩
  · skip
    refine rq_st 14 rfl rfl ?_
    refine rq_bp 16 (nI 10) rfl (by decide) rfl ?_
    refine rq_call [_, _] _ 19 rfl rfl rfl rfl rfl (Nat.le_of_ble_eq_true rfl) (cats rfl) (rcv_n rfl) (p_X7_isIn d _ 10 (by decide) _) rfl ?_
    refine rq_ifnB 22 rfl rfl (fun h19 => ?_) (fun h19 => ?_)
    · skip
      obtain ⟨cc, hc, rfl⟩ := h10
      have hlot := h19
      refine rq_ic 25 (nI 0) rfl (by decide) rfl ?_
      refine rq_st 27 rfl rfl ?_
      refine rq_ic 28 (nI 0) rfl (by decide) rfl ?_
      refine rq_st 30 rfl rfl ?_
      exact outer cc hc hlot 12 0 0 _ _ _ (by omega) (by omega) rfl
    · skip
      have hz : ¬ (inN c 4 ∧ inN lot 10) := fun q => h19 q.2
      refine rq_ic 23 (-1) rfl (by decide) rfl ?_
      exact rq_iret rfl rfl rfl ⟨sm.rf.set (mIn_0 b), hm1, _, rfl, Or.inl ⟨hz, rfl⟩⟩
def vlK (A : Nat → Nat → Int32) (a : Nat) : Nat → Int64
  | 0 => ((A 3 a).toInt64 * lN 31 + (nI (a / 24)).toInt64) * lN 31 + (nI (a % 24)).toInt64
  | k + 1 => vlK A a k * lN 1000003 + (A 4 (4 * a + k)).toInt64
def sumK (A : Nat → Nat → Int32) (kn : Nat → Nat → Nat) (c : Nat) : Nat → Int64
  | 0 => Int64.ofNat 0
  | a + 1 => sumK A kn c a + (if a % 24 < kn c (a / 24) then vlK A a 4 else Int64.ofNat 0)
theorem sumK_y {A : Nat → Nat → Int32} {kn : Nat → Nat → Nat} {c a : Nat} (h : isK kn c a) : sumK A kn c (a + 1) = sumK A kn c a + vlK A a 4 := by rw [sumK, if_pos (show a % 24 < kn c (a / 24) from h)]
theorem sumK_n {A : Nat → Nat → Int32} {kn : Nat → Nat → Nat} {c a : Nat} (h : ¬ isK kn c a) : sumK A kn c (a + 1) = sumK A kn c a + Int64.ofNat 0 := by rw [sumK, if_neg (show ¬ a % 24 < kn c (a / 24) from h)]
def suQ (b : Nat) (A : Nat → Nat → Int32) (kn : Nat → Nat → Nat) (cn lt gd : Int32) (G : ma_G) (c : Int32) (r : Option Value) (G' : ma_G) : Prop := sm (mIn b) G G' ∧ ((¬ inN c 4 ∧ r = some (.long (Int64.ofNat 0)) ∧ mdl b A (nI 1) cn lt gd G') ∨ ∃ cc, cc < 4 ∧ c = nI cc ∧ r = some (.long (sumK A kn cc 96)) ∧ mdl b A (nI 0) cn lt gd G')
theorem p_X7_sum (d : Nat) {b : Nat} {A : Nat → Nat → Int32} {t cn lt gd : Int32} {G : ma_G} (hm : mdl b A t cn lt gd G) {n : Nat → Nat} {kn : Nat → Nat → Nat} (hk : mKn A n kn) (c : Int32) : Cq (d + 2) 132 [.ref b, .int c] G (suQ b A kn cn lt gd G c) := by
  refine cq_of rfl ?_
  have loop : ∀ cc, cc < 4 → ∀ (m a : Nat) (v : Int64) (o5 o6 o7 : Option Value), a + m = 96 → v = sumK A kn cc a → Rq (d + 1) M_X7_sum 22 [some (.ref b), some (.int (nI cc)), some (.long v), none, some (.int (nI a)), o5, o6, o7] [] (G.set b (.inr (7, (mFs b t cn lt gd).set 0 (.int (nI 0))))) (Qr (suQ b A kn cn lt gd G (nI cc))) := by
    intro cc hc m
    have hm1 := hm.thr (nI 0)
    induction m with
    | zero =>
      intro a v o5 o6 o7 ha hv
      refine rq_st 24 rfl rfl ?_
      refine rq_bp 26 (nI 96) rfl (by decide) rfl ?_
      refine rq_cmpt rfl ((ma_cmpN (by omega) (by omega)).mpr (by show 96 ≤ a; omega)) ?_
      refine rq_st 131 rfl rfl ?_
      exact rq_lret rfl rfl ⟨sm.rf.set (mIn_0 b), Or.inr ⟨cc, hc, rfl, by rw [hv, show a = 96 by omega], hm1⟩⟩
    | succ m ih =>
      intro a v o5 o6 o7 ha hv
      have J122 : ∀ (x : Int64) (o5 o7 : Option Value), v + x = sumK A kn cc (a + 1) → Rq (d + 1) M_X7_sum 122 [some (.ref b), some (.int (nI cc)), some (.long v), none, some (.int (nI a)), o5, none, o7] [.long x, .long v] (G.set b (.inr (7, (mFs b t cn lt gd).set 0 (.int (nI 0))))) (Qr (suQ b A kn cn lt gd G (nI cc))) := by
        intro x o5 o7 hz
        refine rq_st 123 rfl rfl ?_
        refine rq_st 124 rfl rfl ?_
        refine rq_incN 127 _ rfl rfl (nI_1 _) rfl rfl ?_
        refine rq_st 22 rfl rfl ?_
        exact ih (a + 1) _ _ _ _ (by omega) hz
      have inner : ∀ (m j : Nat) (u : Int64), j + m = 4 → u = vlK A a j → Rq (d + 1) M_X7_sum 71 [some (.ref b), some (.int (nI cc)), some (.long v), none, some (.int (nI a)), some (.long u), none, some (.int (nI j))] [] (G.set b (.inr (7, (mFs b t cn lt gd).set 0 (.int (nI 0))))) (Qr (suQ b A kn cn lt gd G (nI cc))) := by
        intro m
        induction m with
        | zero =>
          intro j u hj hu
          refine rq_st 73 rfl rfl ?_
          refine rq_ic 74 (nI 4) rfl (by decide) rfl ?_
          refine rq_cmpt rfl ((ma_cmpN (by omega) (by omega)).mpr (by show 4 ≤ j; omega)) ?_
          refine rq_st 106 rfl rfl ?_
          refine rq_st 107 rfl rfl ?_
          refine rq_st 108 rfl rfl ?_
          refine rq_st 110 rfl rfl ?_
          refine rq_call [_, _, _] _ 113 rfl rfl rfl rfl rfl (Nat.le_of_ble_eq_true rfl) (cats rfl) (rcv_s rfl hm1.1) (p_X7_isKnown d hm1 hk cc hc a (by omega)) rfl ?_
          refine rq_ifB 116 rfl rfl (fun h113 => ?_) (fun h113 => ?_)
          · skip
            refine rq_st 122 rfl rfl ?_
            obtain rfl : j = 4 := by omega
            first | exact J122 _ _ _ (by rw [hv, hu, sumK_y h113]) | exact J122 _ _ _ (by rw [hv, sumK_n h113]; rfl)
          · skip
            refine rq_st 118 rfl rfl ?_
            refine rq_st 122 rfl rfl ?_
            obtain rfl : j = 4 := by omega
            first | exact J122 _ _ _ (by rw [hv, hu, sumK_y h113]) | exact J122 _ _ _ (by rw [hv, sumK_n h113]; rfl)
        | succ m ihm =>
          intro j u hj hu
          refine rq_st 73 rfl rfl ?_
          refine rq_ic 74 (nI 4) rfl (by decide) rfl ?_
          refine rq_cmpf 77 rfl rfl (by rw [← Bool.not_eq_true, ma_cmpN (by omega) (by omega)]; show ¬ 4 ≤ j; omega) ?_
          refine rq_st 79 rfl rfl ?_
          refine rq_st 82 rfl rfl ?_
          refine rq_st 83 rfl rfl ?_
          refine rq_st 84 rfl rfl ?_
          refine rq_getf 87 rfl hm1.1 rfl rfl ?_
          refine rq_ic 88 (nI 4) rfl (by decide) rfl ?_
          refine rq_st 90 rfl rfl ?_
          refine rq_mulN 91 rfl rfl ?_
          refine rq_st 93 rfl rfl ?_
          refine rq_addN 94 rfl rfl ?_
          refine rq_ialN 95 rfl (hm1.arr 4 (n := 384) (by decide) rfl rfl) (by omega) (by decide) rfl ?_
          refine rq_st 96 rfl rfl ?_
          refine rq_st 97 rfl rfl ?_
          refine rq_st 99 rfl rfl ?_
          refine rq_incN 102 _ rfl rfl (nI_1 _) rfl rfl ?_
          refine rq_st 71 rfl rfl ?_
          exact ihm (j + 1) _ (by omega) (by rw [hu]; rfl)
      refine rq_st 24 rfl rfl ?_
      refine rq_bp 26 (nI 96) rfl (by decide) rfl ?_
      refine rq_cmpf 29 rfl rfl (by rw [← Bool.not_eq_true, ma_cmpN (by omega) (by omega)]; show ¬ 96 ≤ a; omega) ?_
      refine rq_st 30 rfl rfl ?_
      refine rq_getf 33 rfl hm1.1 rfl rfl ?_
      refine rq_iff 36 rfl rfl (by decide) ?_
      refine rq_st 37 rfl rfl ?_
      refine rq_getf 40 rfl hm1.1 rfl rfl ?_
      refine rq_st 42 rfl rfl ?_
      refine rq_ialN 43 rfl (hm1.arr 3 (n := 96) (by decide) rfl rfl) (by omega) (by decide) rfl ?_
      refine rq_st 44 rfl rfl ?_
      refine rq_st 47 rfl rfl ?_
      refine rq_st 48 rfl rfl ?_
      refine rq_st 50 rfl rfl ?_
      refine rq_bp 52 (nI 24) rfl (by decide) rfl ?_
      refine rq_divN 53 rfl (by omega) (by decide) (by decide) rfl ?_
      refine rq_st 54 rfl rfl ?_
      refine rq_st 55 rfl rfl ?_
      refine rq_st 58 rfl rfl ?_
      refine rq_st 59 rfl rfl ?_
      refine rq_st 61 rfl rfl ?_
      refine rq_bp 63 (nI 24) rfl (by decide) rfl ?_
      refine rq_remN 64 rfl (by omega) (by decide) (by decide) rfl ?_
      refine rq_st 65 rfl rfl ?_
      refine rq_st 66 rfl rfl ?_
      refine rq_st 68 rfl rfl ?_
      refine rq_ic 69 (nI 0) rfl (by decide) rfl ?_
      refine rq_st 71 rfl rfl ?_
      exact inner 4 0 _ (by omega) rfl
  refine rq_st 1 rfl rfl ?_
  refine rq_st 2 rfl rfl ?_
  refine rq_ic 3 (nI 4) rfl (by decide) rfl ?_
  refine rq_call [_, _] _ 6 rfl rfl rfl rfl rfl (Nat.le_of_ble_eq_true rfl) (cats rfl) (rcv_n rfl) (p_X7_isIn d _ 4 (by decide) _) rfl ?_
  refine rq_ifB 9 rfl rfl (fun h6 => ?_) (fun h6 => ?_)
  · skip
    have hbad := h6
    refine rq_ic 14 (nI 1) rfl (by decide) rfl ?_
    refine rq_puti 17 rfl hm.1 (Nat.le_of_ble_eq_true rfl) rfl rfl ?_
    have hm1 := hm.thr (nI 1)
    refine rq_st 18 rfl rfl ?_
    refine rq_st 19 rfl rfl ?_
    refine rq_ic 20 (nI 0) rfl (by decide) rfl ?_
    refine rq_st 22 rfl rfl ?_
    refine rq_st 24 rfl rfl ?_
    refine rq_bp 26 (nI 96) rfl (by decide) rfl ?_
    refine rq_cmpf 29 rfl rfl (by decide) ?_
    refine rq_st 30 rfl rfl ?_
    refine rq_getf 33 rfl hm1.1 rfl rfl ?_
    refine rq_ift rfl (by decide) ?_
    refine rq_st 131 rfl rfl ?_
    exact rq_lret rfl rfl ⟨sm.rf.set (mIn_0 b), Or.inl ⟨hbad, rfl, hm1⟩⟩
  · skip
    obtain ⟨cc, hc, rfl⟩ := h6
    refine rq_ic 10 (nI 0) rfl (by decide) rfl ?_
    refine rq_st 14 rfl rfl ?_
    refine rq_puti 17 rfl hm.1 (Nat.le_of_ble_eq_true rfl) rfl rfl ?_
    have hm1 := hm.thr (nI 0)
    refine rq_st 18 rfl rfl ?_
    refine rq_st 19 rfl rfl ?_
    refine rq_ic 20 (nI 0) rfl (by decide) rfl ?_
    refine rq_st 22 rfl rfl ?_
    exact loop cc hc 96 0 _ _ _ _ (by omega) rfl
