/-! the class: names are read, a course is read -/
def rnQ (A : Nat → Nat → Int32) (kn : Nat → Nat → Nat) (c : Nat) (G : ma_G) (r : Option Value) (G' : ma_G) : Prop := r = none ∧ sm (fun x => x = 46) G G' ∧ ∃ f g, nmp G' 45 g ∧ nF g f ∧ isNm A kn c f
theorem p_X6_readNames (d : Nat) {G : ma_G} {A : Nat → Nat → Int32} {n : Nat → Nat} {kn : Nat → Nat → Nat} {hr : Nat → Nat → Nat → Nat} (hR : cRd A n kn hr G) (hk : mKn A n kn) {g0 : Nat → Int32} (hm0 : nmp G 45 g0) (c : Nat) (hc : c < 4) (hwf : wfS A kn c) : Cq (d + 4) 27 [.ref 1, .int (nI c)] G (rnQ A kn c G) := by
  refine cq_of rfl ?_
  have outer : ∀ (m dd : Nat) (o3 : Option Value) (f : Nat → Nat) (g : Nat → Int32) (G2 : ma_G), dd + m = 4 → tied A kn c f → sat A kn c f (24 * dd) → nF g f → nmp G2 45 g → sm (fun x => x = 46) G G2 → Rq (d + 3) M_X6_readNames 9 [some (.ref 1), some (.int (nI c)), some (.int (nI dd)), o3] [] G2 (Qr (rnQ A kn c G)) := by
    intro m
    induction m with
    | zero =>
      intro dd o3 f g G2 hdd ht hsat hg hm2 hs2
      obtain rfl : dd = 4 := by omega
      refine rq_st 10 rfl rfl ?_
      refine rq_ic 11 (nI 4) rfl (by decide) rfl ?_
      refine rq_cmpt rfl ((ma_cmpN (by omega) (by omega)).mpr (by show 4 ≤ 4; omega)) ?_
      exact rq_vret rfl rfl ⟨rfl, hs2, f, g, hm2, hg, ht, hsat⟩
    | succ m ih =>
      intro dd o3 f g G2 hdd ht hsat hg hm2 hs2
      have hd4 : dd < 4 := by omega
      have hkn := hk.2 c dd hc hd4
      have hn24 := (hk.1 dd hd4).2
      have inner : ∀ (z i : Nat) (f : Nat → Nat) (g : Nat → Int32) (G2 : ma_G), i + z = kn c dd → tied A kn c f → sat A kn c f (24 * dd + i) → nF g f → nmp G2 45 g → sm (fun x => x = 46) G G2 → Rq (d + 3) M_X6_readNames 16 [some (.ref 1), some (.int (nI c)), some (.int (nI dd)), some (.int (nI i))] [] G2 (Qr (rnQ A kn c G)) := by
        intro z
        induction z with
        | zero =>
          intro i f g G2 hi ht hsat hg hm2 hs2
          obtain rfl : i = kn c dd := by omega
          have hR2 := hR.sm hs2 (fun a h1 h2 q => by omega)
          obtain ⟨⟨hx, ⟨f2, hf2, hf2b⟩, ⟨f6, hf6, hf6b⟩, ⟨f7, hf7, hf7b⟩, ⟨f32, hf32, hf32b⟩⟩, hbk, hcl⟩ := hR2
          obtain ⟨Kn, Hd, hl, hK, hH⟩ := hcl c hc
          refine rq_st 17 rfl rfl ?_
          refine rq_st 18 rfl rfl ?_
          refine rq_getf 21 rfl hx rfl rfl ?_
          refine rq_st 22 rfl rfl ?_
          refine rq_aalN 23 rfl hf7 (by omega) (by decide) (hf7b c hc) rfl ?_
          refine rq_st 24 rfl rfl ?_
          refine rq_call [_, _] _ 27 rfl rfl rfl rfl rfl (Nat.le_of_ble_eq_true rfl) (cats rfl) (rcv_s rfl hl.1) (p_X1_knows (d + 1) hl hK dd hd4) rfl ?_
          refine rq_cmpt rfl ((ma_cmpN (by omega) (by omega)).mpr (by show kn c dd ≤ kn c dd; omega)) ?_
          refine rq_incN 82 _ rfl rfl (nI_1 _) rfl rfl ?_
          refine rq_st 9 rfl rfl ?_
          have hsk := sat_skip hsat (24 - kn c dd) (fun a h1 h2 => isK_no h1 (by omega))
          rw [show 24 * dd + kn c dd + (24 - kn c dd) = 24 * (dd + 1) by omega] at hsk
          exact ih (dd + 1) _ f g G2 (by omega) ht hsk hg hm2 hs2
        | succ z ihi =>
          intro i f g G2 hi ht hsat hg hm2 hs2
          have hiK : isK kn c (24 * dd + i) := isK_yes (by omega) (by omega)
          have hR2 := hR.sm hs2 (fun a h1 h2 q => by omega)
          obtain ⟨⟨hx, ⟨f2, hf2, hf2b⟩, ⟨f6, hf6, hf6b⟩, ⟨f7, hf7, hf7b⟩, ⟨f32, hf32, hf32b⟩⟩, hbk, hcl⟩ := hR2
          obtain ⟨Kn, Hd, hl, hK, hH⟩ := hcl c hc
          obtain ⟨K, N, hb, hA⟩ := hbk dd hd4
          refine rq_st 17 rfl rfl ?_
          refine rq_st 18 rfl rfl ?_
          refine rq_getf 21 rfl hx rfl rfl ?_
          refine rq_st 22 rfl rfl ?_
          refine rq_aalN 23 rfl hf7 (by omega) (by decide) (hf7b c hc) rfl ?_
          refine rq_st 24 rfl rfl ?_
          refine rq_call [_, _] _ 27 rfl rfl rfl rfl rfl (Nat.le_of_ble_eq_true rfl) (cats rfl) (rcv_s rfl hl.1) (p_X1_knows (d + 1) hl hK dd hd4) rfl ?_
          refine rq_cmpf 30 rfl rfl (by rw [← Bool.not_eq_true, ma_cmpN (by omega) (by omega)]; show ¬ kn c dd ≤ i; omega) ?_
          refine rq_st 31 rfl rfl ?_
          refine rq_getf 34 rfl hx rfl rfl ?_
          refine rq_st 35 rfl rfl ?_
          refine rq_aalN 36 rfl hf6 (by omega) (by decide) (hf6b dd hd4) rfl ?_
          refine rq_st 37 rfl rfl ?_
          refine rq_call [_, _] _ 40 rfl rfl rfl rfl rfl (Nat.le_of_ble_eq_true rfl) (cats rfl) (rcv_s rfl hb.1) (p_X0_kindN (d + 2) hb hn24 hA i (by omega)) rfl ?_
          refine rq_ic 41 (nI 4) rfl (by decide) rfl ?_
          refine rq_cmpI 44 rfl rfl (fun h41 => ?_) (fun h41 => ?_)
          · dsimp only [cI] at h41
            refine rq_incN 76 _ rfl rfl (nI_1 _) rfl rfl ?_
            refine rq_st 16 rfl rfl ?_
            first
              | exact ihi (i + 1) f g G2 (by omega) ht (sat_n hsat (fun q => h41 q.2)) hg hm2 hs2
              | exact ihi (i + 1) _ _ _ (by omega) (jn_tied ht (by omega) hpar) (jn_sat hsat hpar) hg3 hm3 (hs2.tr hs3)
          · dsimp only [cI] at h41
            obtain ⟨p, q, hpar⟩ := hwf (24 * dd + i) (by omega) ⟨hiK, Classical.byContradiction h41⟩
            obtain ⟨-, hp, hq, ep, eq⟩ := id hpar
            refine rq_st 45 rfl rfl ?_
            refine rq_getf 48 rfl hx rfl rfl ?_
            refine rq_st 49 rfl rfl ?_
            refine rq_getf 52 rfl hx rfl rfl ?_
            refine rq_st 53 rfl rfl ?_
            refine rq_aalN 54 rfl hf6 (by omega) (by decide) (hf6b dd hd4) rfl ?_
            refine rq_st 55 rfl rfl ?_
            refine rq_ic 56 (nI 1) rfl (by decide) rfl ?_
            refine rq_call [_, _, _] _ 59 rfl rfl rfl rfl rfl (Nat.le_of_ble_eq_true rfl) (cats rfl) (rcv_s rfl hb.1) (p_X0_numberOf (d + 2) hb hn24 hA i (by omega) 0 (by decide)) rfl ?_
            rw [show A 4 (4 * (24 * dd + i) + 0) = nI p from ep]
            refine rq_st 60 rfl rfl ?_
            refine rq_getf 63 rfl hx rfl rfl ?_
            refine rq_st 64 rfl rfl ?_
            refine rq_aalN 65 rfl hf6 (by omega) (by decide) (hf6b dd hd4) rfl ?_
            refine rq_st 66 rfl rfl ?_
            refine rq_ic 67 (nI 2) rfl (by decide) rfl ?_
            refine rq_call [_, _, _] _ 70 rfl rfl rfl rfl rfl (Nat.le_of_ble_eq_true rfl) (cats rfl) (rcv_s rfl hb.1) (p_X0_numberOf (d + 2) hb hn24 hA i (by omega) 1 (by decide)) rfl ?_
            rw [show A 4 (4 * (24 * dd + i) + 1) = nI q from eq]
            refine rq_callq [_, _, _] _ 73 rfl rfl rfl rfl rfl (Nat.le_of_ble_eq_true rfl) (cats rfl) (rcv_s rfl hm2.1) (p_X3_join d hm2 hg p hp q hq) rfl (fun v9 G3 hv9 => ?_)
            obtain ⟨rfl, hs3, g3, hm3, hg3⟩ := hv9
            refine rq_incN 76 _ rfl rfl (nI_1 _) rfl rfl ?_
            refine rq_st 16 rfl rfl ?_
            first
              | exact ihi (i + 1) f g G2 (by omega) ht (sat_n hsat (fun q => h41 q.2)) hg hm2 hs2
              | exact ihi (i + 1) _ _ _ (by omega) (jn_tied ht (by omega) hpar) (jn_sat hsat hpar) hg3 hm3 (hs2.tr hs3)
      refine rq_st 10 rfl rfl ?_
      refine rq_ic 11 (nI 4) rfl (by decide) rfl ?_
      refine rq_cmpf 14 rfl rfl (by rw [← Bool.not_eq_true, ma_cmpN (by omega) (by omega)]; show ¬ 4 ≤ dd; omega) ?_
      refine rq_ic 15 (nI 0) rfl (by decide) rfl ?_
      refine rq_st 16 rfl rfl ?_
      exact inner (kn c dd) 0 f g G2 (by omega) ht hsat hg hm2 hs2
  obtain ⟨⟨hx, ⟨f2, hf2, hf2b⟩, ⟨f6, hf6, hf6b⟩, ⟨f7, hf7, hf7b⟩, ⟨f32, hf32, hf32b⟩⟩, hbk, hcl⟩ := hR
  refine rq_st 1 rfl rfl ?_
  refine rq_getf 4 rfl hx rfl rfl ?_
  refine rq_callq [_] _ 7 rfl rfl rfl rfl rfl (Nat.le_of_ble_eq_true rfl) (cats rfl) (rcv_s rfl hm0.1) (p_X3_clear (d + 2) hm0) rfl (fun v9 G3 hv9 => ?_)
  obtain ⟨rfl, hs3, g3, hm3, hg3⟩ := hv9
  refine rq_ic 8 (nI 0) rfl (by decide) rfl ?_
  refine rq_st 9 rfl rfl ?_
  exact outer 4 0 _ id g3 G3 (by omega) ⟨fun _ _ => Nat.le_refl _, fun _ _ _ _ => rfl⟩ sat_0 hg3 hm3 hs3
def wi6 (A : Nat → Nat → Int32) (kn : Nat → Nat → Nat) (G : ma_G) (c p : Int32) (r : Option Value) (G' : ma_G) : Prop := sm (fun x => x = 46) G G' ∧ (∃ g, nmp G' 45 g) ∧ ((¬ (inN c 4 ∧ inN p 12) ∧ r = some (.int (-1))) ∨ ∃ cc pp f, cc < 4 ∧ pp < 12 ∧ c = nI cc ∧ p = nI pp ∧ isNm A kn cc f ∧ r = some (.int (nI (f pp))))
theorem p_X6_whoIs (d : Nat) {G : ma_G} {A : Nat → Nat → Int32} {n : Nat → Nat} {kn : Nat → Nat → Nat} {hr : Nat → Nat → Nat → Nat} (hR : cRd A n kn hr G) (hk : mKn A n kn) {g0 : Nat → Int32} (hm0 : nmp G 45 g0) (hwf : ∀ c, c < 4 → wfS A kn c) (c p : Int32) : Cq (d + 5) 25 [.ref 1, .int c, .int p] G (wi6 A kn G c p) := by
  refine cq_of rfl ?_
  refine rq_st 1 rfl rfl ?_
  refine rq_call [_] _ 4 rfl rfl rfl rfl rfl (Nat.le_of_ble_eq_true rfl) (cats rfl) (rcv_n rfl) (p_X6_isClinic (d + 3) _ _) rfl ?_
  refine rq_ifB 7 rfl rfl (fun h4 => ?_) (fun h4 => ?_)
  · skip
    have hz : ¬ (inN c 4 ∧ inN p 12) := fun q => h4 q.1
    refine rq_ic 15 (-1) rfl (by decide) rfl ?_
    exact rq_iret rfl rfl rfl ⟨sm.rf, ⟨g0, hm0⟩, Or.inl ⟨hz, rfl⟩⟩
  · skip
    refine rq_st 8 rfl rfl ?_
    refine rq_call [_] _ 11 rfl rfl rfl rfl rfl (Nat.le_of_ble_eq_true rfl) (cats rfl) (rcv_n rfl) (p_X6_isPerson (d + 3) _ _) rfl ?_
    refine rq_ifnB 14 rfl rfl (fun h11 => ?_) (fun h11 => ?_)
    · skip
      obtain ⟨cc, hc, rfl⟩ := h4
      obtain ⟨pp, hp, rfl⟩ := h11
      refine rq_st 17 rfl rfl ?_
      refine rq_st 18 rfl rfl ?_
      refine rq_callq [_, _] _ 21 rfl rfl rfl rfl rfl (Nat.le_of_ble_eq_true rfl) (cats rfl) (rcv_s rfl hR.1.1) (p_X6_readNames d hR hk hm0 cc hc (hwf cc hc)) rfl (fun v9 G3 hv9 => ?_)
      obtain ⟨rfl, hs3, f, g3, hm3, hg3, hf⟩ := hv9
      have hx3 := (hR.sm hs3 (fun a h1 h2 q => by omega)).1.1
      refine rq_st 22 rfl rfl ?_
      refine rq_getf 25 rfl hx3 rfl rfl ?_
      refine rq_st 26 rfl rfl ?_
      refine rq_call [_, _] _ 29 rfl rfl rfl rfl rfl (Nat.le_of_ble_eq_true rfl) (cats rfl) (rcv_s rfl hm3.1) (p_X3_of (d + 2) hm3 hg3 pp hp) rfl ?_
      exact rq_iret rfl rfl rfl ⟨hs3, ⟨g3, hm3⟩, Or.inr ⟨cc, pp, f, hc, hp, rfl, rfl, hf, rfl⟩⟩
    · skip
      have hz : ¬ (inN c 4 ∧ inN p 12) := fun q => h11 q.2
      refine rq_ic 15 (-1) rfl (by decide) rfl ?_
      exact rq_iret rfl rfl rfl ⟨sm.rf, ⟨g0, hm0⟩, Or.inl ⟨hz, rfl⟩⟩
theorem p_X6_isDoseOf (d : Nat) {G : ma_G} {A : Nat → Nat → Int32} {n : Nat → Nat} {kn : Nat → Nat → Nat} {hr : Nat → Nat → Nat → Nat} (hR : cRd A n kn hr G) (hk : mKn A n kn) (c : Nat) (hc : c < 4) (dd : Nat) (hd4 : dd < 4) (i : Nat) (hik : i < kn c dd) (hwd : wfD A kn c) {g : Nat → Int32} {f : Nat → Nat} (hm : nmp G 45 g) (hg : nF g f) (m : Nat) (hm12 : m < 12) (v : Nat) : Ca (d + 3) 79 [.ref 1, .int (nI dd), .int (nI i), .int (nI m), .int (nI v)] G (.inl (some (.int (bI (A 3 (24 * dd + i) = nI 1 ∧ (∃ q, q < 12 ∧ A 4 (4 * (24 * dd + i)) = nI q ∧ f q = m) ∧ A 4 (4 * (24 * dd + i) + 1) = nI v)))), G, 0, 0) := by
  obtain ⟨⟨hx, ⟨f2, hf2, hf2b⟩, ⟨f6, hf6, hf6b⟩, ⟨f7, hf7, hf7b⟩, ⟨f32, hf32, hf32b⟩⟩, hbk, hcl⟩ := id hR
  obtain ⟨Kn, Hd, hl, hK, hH⟩ := hcl c hc
  obtain ⟨K, N, hb, hA⟩ := hbk dd hd4
  have hkn := hk.2 c dd hc hd4
  have hn24 := (hk.1 dd hd4).2
  have hin : i < n dd := by omega
  have hiK : isK kn c (24 * dd + i) := isK_yes hik (by omega)
  refine ca_of rfl ?_
  refine ru_st 1 rfl rfl ?_
  refine ru_getf 4 rfl hx rfl rfl ?_
  refine ru_st 5 rfl rfl ?_
  refine ru_aalN 6 rfl hf6 (by omega) (by decide) (hf6b dd hd4) rfl ?_
  refine ru_st 7 rfl rfl ?_
  refine ru_call [_, _] _ 10 rfl rfl rfl rfl rfl (Nat.le_of_ble_eq_true rfl) (cats rfl) (rcv_s rfl hb.1) (p_X0_kindN (d + 1) hb hn24 hA i hin) rfl ?_
  refine ru_ic 11 (nI 1) rfl (by decide) rfl ?_
  refine ru_cmpI 14 rfl rfl (fun h11 => ?_) (fun h11 => ?_)
  · dsimp only [cI] at h11
    have hz : ¬ (A 3 (24 * dd + i) = nI 1 ∧ (∃ q, q < 12 ∧ A 4 (4 * (24 * dd + i)) = nI q ∧ f q = m) ∧ A 4 (4 * (24 * dd + i) + 1) = nI v) := fun q => h11 q.1
    refine ru_ic 57 (nI 0) rfl (by decide) rfl ?_
    exact ru_ire rfl rfl (by first | exact (bI_t hz).symm | exact (bI_f hz).symm) (bI_nb _)
  · dsimp only [cI] at h11
    obtain ⟨q, yy, hq, hyy, eq, ey⟩ := hwd (24 * dd + i) (by omega) hiK (Classical.byContradiction h11)
    have hfq := (hg q hq).2
    refine ru_st 15 rfl rfl ?_
    refine ru_getf 18 rfl hx rfl rfl ?_
    refine ru_st 19 rfl rfl ?_
    refine ru_getf 22 rfl hx rfl rfl ?_
    refine ru_st 23 rfl rfl ?_
    refine ru_aalN 24 rfl hf6 (by omega) (by decide) (hf6b dd hd4) rfl ?_
    refine ru_st 25 rfl rfl ?_
    refine ru_ic 26 (nI 1) rfl (by decide) rfl ?_
    refine ru_call [_, _, _] _ 29 rfl rfl rfl rfl rfl (Nat.le_of_ble_eq_true rfl) (cats rfl) (rcv_s rfl hb.1) (p_X0_numberOf (d + 1) hb hn24 hA i hin 0 (by decide)) rfl ?_
    rw [show A 4 (4 * (24 * dd + i) + 0) = nI q from eq]
    refine ru_call [_, _] _ 32 rfl rfl rfl rfl rfl (Nat.le_of_ble_eq_true rfl) (cats rfl) (rcv_s rfl hm.1) (p_X3_of d hm hg q hq) rfl ?_
    refine ru_st 33 rfl rfl ?_
    refine ru_cmpN 36 rfl rfl (by omega) (by omega) (fun h33 => ?_) (fun h33 => ?_)
    · dsimp only [cN] at h33
      have hz : ¬ (A 3 (24 * dd + i) = nI 1 ∧ (∃ q, q < 12 ∧ A 4 (4 * (24 * dd + i)) = nI q ∧ f q = m) ∧ A 4 (4 * (24 * dd + i) + 1) = nI v) := fun ⟨_, ⟨q2, hq2, e2, e3⟩, _⟩ => h33 (by rw [nI_inj (by omega) (by omega) (eq.symm.trans e2)]; exact e3)
      refine ru_ic 57 (nI 0) rfl (by decide) rfl ?_
      exact ru_ire rfl rfl (by first | exact (bI_t hz).symm | exact (bI_f hz).symm) (bI_nb _)
    · dsimp only [cN] at h33
      refine ru_st 37 rfl rfl ?_
      refine ru_getf 40 rfl hx rfl rfl ?_
      refine ru_st 41 rfl rfl ?_
      refine ru_aalN 42 rfl hf6 (by omega) (by decide) (hf6b dd hd4) rfl ?_
      refine ru_st 43 rfl rfl ?_
      refine ru_ic 44 (nI 2) rfl (by decide) rfl ?_
      refine ru_call [_, _, _] _ 47 rfl rfl rfl rfl rfl (Nat.le_of_ble_eq_true rfl) (cats rfl) (rcv_s rfl hb.1) (p_X0_numberOf (d + 1) hb hn24 hA i hin 1 (by decide)) rfl ?_
      refine ru_st 49 rfl rfl ?_
      refine ru_cmpI 52 rfl rfl (fun h49 => ?_) (fun h49 => ?_)
      · dsimp only [cI] at h49
        have hz : ¬ (A 3 (24 * dd + i) = nI 1 ∧ (∃ q, q < 12 ∧ A 4 (4 * (24 * dd + i)) = nI q ∧ f q = m) ∧ A 4 (4 * (24 * dd + i) + 1) = nI v) := fun q => h49 q.2.2
        refine ru_ic 57 (nI 0) rfl (by decide) rfl ?_
        exact ru_ire rfl rfl (by first | exact (bI_t hz).symm | exact (bI_f hz).symm) (bI_nb _)
      · dsimp only [cI] at h49
        have hz : (A 3 (24 * dd + i) = nI 1 ∧ (∃ q, q < 12 ∧ A 4 (4 * (24 * dd + i)) = nI q ∧ f q = m) ∧ A 4 (4 * (24 * dd + i) + 1) = nI v) := ⟨Classical.byContradiction h11, ⟨q, hq, eq, by omega⟩, Classical.byContradiction h49⟩
        refine ru_ic 53 (nI 1) rfl (by decide) rfl ?_
        refine ru_st 57 rfl rfl ?_
        exact ru_ire rfl rfl (by first | exact (bI_t hz).symm | exact (bI_f hz).symm) (bI_nb _)
theorem p_X6_isValid (d : Nat) {G : ma_G} {A : Nat → Nat → Int32} {n : Nat → Nat} {kn : Nat → Nat → Nat} {hr : Nat → Nat → Nat → Nat} (hR : cRd A n kn hr G) (hk : mKn A n kn) (c : Nat) (hc : c < 4) (dd : Nat) (hd4 : dd < 4) (i : Nat) (hik : i < kn c dd) : Ca (d + 4) 80 [.ref 1, .int (nI c), .int (nI dd), .int (nI i)] G (.inl (some (.int (bI (¬ strk A dd (nI i) (kn c dd) ∧ ¬ rcl A kn c (A 4 (4 * (24 * dd + i) + 2)) (A 4 (4 * (24 * dd + i) + 3)) 96)))), G, 0, 0) := by
  obtain ⟨⟨hx, ⟨f2, hf2, hf2b⟩, ⟨f6, hf6, hf6b⟩, ⟨f7, hf7, hf7b⟩, ⟨f32, hf32, hf32b⟩⟩, hbk, hcl⟩ := id hR
  obtain ⟨Kn, Hd, hl, hK, hH⟩ := hcl c hc
  obtain ⟨K, N, hb, hA⟩ := hbk dd hd4
  have hkn := hk.2 c dd hc hd4
  have hn24 := (hk.1 dd hd4).2
  have hin : i < n dd := by omega
  have hiK : isK kn c (24 * dd + i) := isK_yes hik (by omega)
  refine ca_of rfl ?_
  refine ru_st 1 rfl rfl ?_
  refine ru_getf 4 rfl hx rfl rfl ?_
  refine ru_st 5 rfl rfl ?_
  refine ru_aalN 6 rfl hf6 (by omega) (by decide) (hf6b dd hd4) rfl ?_
  refine ru_st 7 rfl rfl ?_
  refine ru_st 8 rfl rfl ?_
  refine ru_getf 11 rfl hx rfl rfl ?_
  refine ru_st 12 rfl rfl ?_
  refine ru_aalN 13 rfl hf7 (by omega) (by decide) (hf7b c hc) rfl ?_
  refine ru_st 14 rfl rfl ?_
  refine ru_call [_, _] _ 17 rfl rfl rfl rfl rfl (Nat.le_of_ble_eq_true rfl) (cats rfl) (rcv_s rfl hl.1) (p_X1_knows (d + 1) hl hK dd hd4) rfl ?_
  refine ru_call [_, _, _] _ 20 rfl rfl rfl rfl rfl (Nat.le_of_ble_eq_true rfl) (cats rfl) (rcv_s rfl hb.1) (p_X0_isStruck (d + 1) hb hn24 hA (nI i) (kn c dd) hkn.2) rfl ?_
  refine ru_ifnB 23 rfl rfl (fun h20 => ?_) (fun h20 => ?_)
  · skip
    have hz : ¬ (¬ strk A dd (nI i) (kn c dd) ∧ ¬ rcl A kn c (A 4 (4 * (24 * dd + i) + 2)) (A 4 (4 * (24 * dd + i) + 3)) 96) := fun q => q.1 h20
    refine ru_ic 58 (nI 0) rfl (by decide) rfl ?_
    exact ru_ire rfl rfl (by first | exact (bI_t hz).symm | exact (bI_f hz).symm) (bI_nb _)
  · skip
    refine ru_st 24 rfl rfl ?_
    refine ru_st 25 rfl rfl ?_
    refine ru_st 26 rfl rfl ?_
    refine ru_getf 29 rfl hx rfl rfl ?_
    refine ru_st 30 rfl rfl ?_
    refine ru_aalN 31 rfl hf6 (by omega) (by decide) (hf6b dd hd4) rfl ?_
    refine ru_st 32 rfl rfl ?_
    refine ru_ic 33 (nI 3) rfl (by decide) rfl ?_
    refine ru_call [_, _, _] _ 36 rfl rfl rfl rfl rfl (Nat.le_of_ble_eq_true rfl) (cats rfl) (rcv_s rfl hb.1) (p_X0_numberOf (d + 2) hb hn24 hA i hin 2 (by decide)) rfl ?_
    refine ru_st 37 rfl rfl ?_
    refine ru_getf 40 rfl hx rfl rfl ?_
    refine ru_st 41 rfl rfl ?_
    refine ru_aalN 42 rfl hf6 (by omega) (by decide) (hf6b dd hd4) rfl ?_
    refine ru_st 43 rfl rfl ?_
    refine ru_ic 44 (nI 4) rfl (by decide) rfl ?_
    refine ru_call [_, _, _] _ 47 rfl rfl rfl rfl rfl (Nat.le_of_ble_eq_true rfl) (cats rfl) (rcv_s rfl hb.1) (p_X0_numberOf (d + 2) hb hn24 hA i hin 3 (by decide)) rfl ?_
    refine ru_call [_, _, _, _] _ 50 rfl rfl rfl rfl rfl (Nat.le_of_ble_eq_true rfl) (cats rfl) (rcv_s rfl hx) (p_X6_isRecalled d hR hk c hc _ _) rfl ?_
    refine ru_ifnB 53 rfl rfl (fun h50 => ?_) (fun h50 => ?_)
    · skip
      have hz : ¬ (¬ strk A dd (nI i) (kn c dd) ∧ ¬ rcl A kn c (A 4 (4 * (24 * dd + i) + 2)) (A 4 (4 * (24 * dd + i) + 3)) 96) := fun q => q.2 h50
      refine ru_ic 58 (nI 0) rfl (by decide) rfl ?_
      exact ru_ire rfl rfl (by first | exact (bI_t hz).symm | exact (bI_f hz).symm) (bI_nb _)
    · skip
      have hz : (¬ strk A dd (nI i) (kn c dd) ∧ ¬ rcl A kn c (A 4 (4 * (24 * dd + i) + 2)) (A 4 (4 * (24 * dd + i) + 3)) 96) := ⟨h20, h50⟩
      refine ru_ic 54 (nI 1) rfl (by decide) rfl ?_
      refine ru_st 58 rfl rfl ?_
      exact ru_ire rfl rfl (by first | exact (bI_t hz).symm | exact (bI_f hz).symm) (bI_nb _)
