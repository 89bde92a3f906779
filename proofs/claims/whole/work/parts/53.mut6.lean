/-! the class: strike, schedule, tear -/
theorem kdv_1 {f : Nat → Int32} {n : Nat} {i : Int32} (hn : n ≤ 24) (h : kdv f n i = nI 1) : ∃ x, x < n ∧ i = nI x ∧ f x = nI 1 := by
  by_cases q : inN i n
  · obtain ⟨x, hx, rfl⟩ := q
    rw [kdv_N hx hn] at h
    exact ⟨x, hx, rfl, h⟩
  · rw [kdv_O q] at h
    exact absurd h (by decide)
theorem p_X6_strike_bad (d : Nat) {G : ma_G} {A : Nat → Nat → Int32} {n : Nat → Nat} {kn : Nat → Nat → Nat} {hr : Nat → Nat → Nat → Nat} (hR : cRd A n kn hr G) (hk : mKn A n kn) {ci i : Int32} (h : ¬ okSt A n ci i) : Ca (d + 5) 49 [.ref 1, .int ci, .int i] G (.inr 8001, G, 1, 6) := by
  refine ca_of rfl ?_
  by_cases hq : inN ci 4
  · obtain ⟨c, hc, rfl⟩ := hq
    obtain ⟨⟨hx, ⟨f2, hf2, hf2b⟩, ⟨f6, hf6, hf6b⟩, ⟨f7, hf7, hf7b⟩, ⟨f32, hf32, hf32b⟩⟩, hbk, hcl⟩ := id hR
    obtain ⟨K, N, hb, hA⟩ := hbk c hc
    have hn24 := (hk.1 c hc).2
    have J : ∀ u : Int32, u = bI ((kdv (fun j => A 3 (24 * c + j)) (n c) i) = nI 1) → Ru (d + 4) M_X6_strike 25 [some (.ref 1), some (.int (nI c)), some (.int i), some (.ref (8 + 6 * c))] [.int u] G (.inr 8001, G, 1, 6) := by
      intro u hu
      subst hu
      by_cases hq25 : (kdv (fun j => A 3 (24 * c + j)) (n c) i) = nI 1
      rotate_left
      · exact ru_callt [_] _ rfl rfl rfl rfl rfl (Nat.le_of_ble_eq_true rfl) (cats rfl) (rcv_n rfl) (p_require_n (d + 1) hq25 _) rfl rfl
      refine ru_call [_] _ 28 rfl rfl rfl rfl rfl (Nat.le_of_ble_eq_true rfl) (cats rfl) (rcv_n rfl) (p_require_y (d + 3) hq25 _) rfl ?_
      obtain ⟨x, hx2, rfl, hx3⟩ := kdv_1 hn24 hq25
      exact absurd ⟨c, x, hc, hx2, rfl, rfl, hx3⟩ h
    refine ru_st 1 rfl rfl ?_
    refine ru_call [_] _ 4 rfl rfl rfl rfl rfl (Nat.le_of_ble_eq_true rfl) (cats rfl) (rcv_n rfl) (p_reqClinic_y (d + 2) ⟨c, hc, rfl⟩ _) rfl ?_
    refine ru_st 5 rfl rfl ?_
    refine ru_getf 8 rfl hx rfl rfl ?_
    refine ru_st 9 rfl rfl ?_
    refine ru_aalN 10 rfl hf6 (by omega) (by decide) (hf6b c hc) rfl ?_
    refine ru_st 11 rfl rfl ?_
    refine ru_st 12 rfl rfl ?_
    refine ru_st 13 rfl rfl ?_
    refine ru_call [_, _] _ 16 rfl rfl rfl rfl rfl (Nat.le_of_ble_eq_true rfl) (cats rfl) (rcv_s rfl hb.1) (p_X0_kindOf (d + 3) hb hn24 hA i) rfl ?_
    refine ru_ic 17 (nI 1) rfl (by decide) rfl ?_
    refine ru_cmpI 20 rfl rfl (fun h17 => ?_) (fun h17 => ?_)
    · dsimp only [cI] at h17
      have hz : ¬ (kdv (fun j => A 3 (24 * c + j)) (n c) i) = nI 1 := h17
      refine ru_ic 25 (nI 0) rfl (by decide) rfl ?_
      exact J _ (by first | exact (bI_t hz).symm | exact (bI_f hz).symm)
    · dsimp only [cI] at h17
      have hz : (kdv (fun j => A 3 (24 * c + j)) (n c) i) = nI 1 := Classical.byContradiction h17
      refine ru_ic 21 (nI 1) rfl (by decide) rfl ?_
      refine ru_st 25 rfl rfl ?_
      exact J _ (by first | exact (bI_t hz).symm | exact (bI_f hz).symm)
  · skip
    refine ru_st 1 rfl rfl ?_
    exact ru_callt [_] _ rfl rfl rfl rfl rfl (Nat.le_of_ble_eq_true rfl) (cats rfl) (rcv_n rfl) (p_reqClinic_n d hq _) rfl rfl
theorem p_X6_strike_struck (d : Nat) {G : ma_G} {A : Nat → Nat → Int32} {n : Nat → Nat} {kn : Nat → Nat → Nat} {hr : Nat → Nat → Nat → Nat} (hR : cRd A n kn hr G) (hk : mKn A n kn) (c : Nat) (hc : c < 4) (x : Nat) (hx0 : x < n c) (h1 : A 3 (24 * c + x) = nI 1) (hst : strk A c (nI x) (n c)) : Ca (d + 5) 49 [.ref 1, .int (nI c), .int (nI x)] G (.inr 8002, G, 1, 6) := by
  refine ca_of rfl ?_
  obtain ⟨⟨hx, ⟨f2, hf2, hf2b⟩, ⟨f6, hf6, hf6b⟩, ⟨f7, hf7, hf7b⟩, ⟨f32, hf32, hf32b⟩⟩, hbk, hcl⟩ := id hR
  obtain ⟨K, N, hb, hA⟩ := hbk c hc
  have hn24 := (hk.1 c hc).2
  have hkx : (kdv (fun j => A 3 (24 * c + j)) (n c) (nI x)) = nI 1 := by rw [kdv_N hx0 hn24]; exact h1
  have J : ∀ u : Int32, u = bI ((kdv (fun j => A 3 (24 * c + j)) (n c) (nI x)) = nI 1) → Ru (d + 4) M_X6_strike 25 [some (.ref 1), some (.int (nI c)), some (.int (nI x)), some (.ref (8 + 6 * c))] [.int u] G (.inr 8002, G, 1, 6) := by
    intro u hu
    subst hu
    refine ru_call [_] _ 28 rfl rfl rfl rfl rfl (Nat.le_of_ble_eq_true rfl) (cats rfl) (rcv_n rfl) (p_require_y (d + 3) hkx _) rfl ?_
    refine ru_st 29 rfl rfl ?_
    refine ru_st 30 rfl rfl ?_
    refine ru_st 31 rfl rfl ?_
    refine ru_call [_] _ 34 rfl rfl rfl rfl rfl (Nat.le_of_ble_eq_true rfl) (cats rfl) (rcv_s rfl hb.1) (p_X0_size (d + 3) hb) rfl ?_
    refine ru_call [_, _, _] _ 37 rfl rfl rfl rfl rfl (Nat.le_of_ble_eq_true rfl) (cats rfl) (rcv_s rfl hb.1) (p_X0_isStruck (d + 2) hb hn24 hA (nI x) (n c) (Nat.le_refl _)) rfl ?_
    refine ru_iff 40 rfl rfl (by rw [← Bool.not_eq_true, (bI_if _).1]; exact fun q => q (hst)) ?_
    exact ru_thr rfl (by decide) (by decide) (by omega) rfl (Nat.le_of_ble_eq_true rfl)
  refine ru_st 1 rfl rfl ?_
  refine ru_call [_] _ 4 rfl rfl rfl rfl rfl (Nat.le_of_ble_eq_true rfl) (cats rfl) (rcv_n rfl) (p_reqClinic_y (d + 2) ⟨c, hc, rfl⟩ _) rfl ?_
  refine ru_st 5 rfl rfl ?_
  refine ru_getf 8 rfl hx rfl rfl ?_
  refine ru_st 9 rfl rfl ?_
  refine ru_aalN 10 rfl hf6 (by omega) (by decide) (hf6b c hc) rfl ?_
  refine ru_st 11 rfl rfl ?_
  refine ru_st 12 rfl rfl ?_
  refine ru_st 13 rfl rfl ?_
  refine ru_call [_, _] _ 16 rfl rfl rfl rfl rfl (Nat.le_of_ble_eq_true rfl) (cats rfl) (rcv_s rfl hb.1) (p_X0_kindOf (d + 3) hb hn24 hA (nI x)) rfl ?_
  refine ru_ic 17 (nI 1) rfl (by decide) rfl ?_
  refine ru_cmpI 20 rfl rfl (fun h17 => ?_) (fun h17 => ?_)
  · dsimp only [cI] at h17
    have hz : ¬ (kdv (fun j => A 3 (24 * c + j)) (n c) (nI x)) = nI 1 := h17
    refine ru_ic 25 (nI 0) rfl (by decide) rfl ?_
    exact J _ (by first | exact (bI_t hz).symm | exact (bI_f hz).symm)
  · dsimp only [cI] at h17
    have hz : (kdv (fun j => A 3 (24 * c + j)) (n c) (nI x)) = nI 1 := Classical.byContradiction h17
    refine ru_ic 21 (nI 1) rfl (by decide) rfl ?_
    refine ru_st 25 rfl rfl ?_
    exact J _ (by first | exact (bI_t hz).symm | exact (bI_f hz).symm)
theorem p_X6_strike_full (d : Nat) {G : ma_G} {A : Nat → Nat → Int32} {n : Nat → Nat} {kn : Nat → Nat → Nat} {hr : Nat → Nat → Nat → Nat} (hR : cRd A n kn hr G) (hk : mKn A n kn) (c : Nat) (hc : c < 4) (x : Nat) (hx0 : x < n c) (h1 : A 3 (24 * c + x) = nI 1) (hst : ¬ strk A c (nI x) (n c)) (hn : n c = 24) : Ca (d + 5) 49 [.ref 1, .int (nI c), .int (nI x)] G (.inr 8002, G, 1, 6) := by
  refine ca_of rfl ?_
  obtain ⟨⟨hx, ⟨f2, hf2, hf2b⟩, ⟨f6, hf6, hf6b⟩, ⟨f7, hf7, hf7b⟩, ⟨f32, hf32, hf32b⟩⟩, hbk, hcl⟩ := id hR
  obtain ⟨K, N, hb, hA⟩ := hbk c hc
  have hn24 := (hk.1 c hc).2
  have hkx : (kdv (fun j => A 3 (24 * c + j)) (n c) (nI x)) = nI 1 := by rw [kdv_N hx0 hn24]; exact h1
  have J : ∀ u : Int32, u = bI ((kdv (fun j => A 3 (24 * c + j)) (n c) (nI x)) = nI 1) → Ru (d + 4) M_X6_strike 25 [some (.ref 1), some (.int (nI c)), some (.int (nI x)), some (.ref (8 + 6 * c))] [.int u] G (.inr 8002, G, 1, 6) := by
    intro u hu
    subst hu
    refine ru_call [_] _ 28 rfl rfl rfl rfl rfl (Nat.le_of_ble_eq_true rfl) (cats rfl) (rcv_n rfl) (p_require_y (d + 3) hkx _) rfl ?_
    refine ru_st 29 rfl rfl ?_
    refine ru_st 30 rfl rfl ?_
    refine ru_st 31 rfl rfl ?_
    refine ru_call [_] _ 34 rfl rfl rfl rfl rfl (Nat.le_of_ble_eq_true rfl) (cats rfl) (rcv_s rfl hb.1) (p_X0_size (d + 3) hb) rfl ?_
    refine ru_call [_, _, _] _ 37 rfl rfl rfl rfl rfl (Nat.le_of_ble_eq_true rfl) (cats rfl) (rcv_s rfl hb.1) (p_X0_isStruck (d + 2) hb hn24 hA (nI x) (n c) (Nat.le_refl _)) rfl ?_
    refine ru_ift rfl ((bI_if _).1.mpr (hst)) ?_
    refine ru_st 51 rfl rfl ?_
    refine ru_st 52 rfl rfl ?_
    refine ru_ic 53 (nI 2) rfl (by decide) rfl ?_
    refine ru_st 54 rfl rfl ?_
    refine ru_ic 55 (nI 0) rfl (by decide) rfl ?_
    refine ru_ic 56 (nI 0) rfl (by decide) rfl ?_
    refine ru_ic 57 (nI 0) rfl (by decide) rfl ?_
    exact ru_callt [_, _, _, _, _, _, _] _ rfl rfl rfl rfl rfl (Nat.le_of_ble_eq_true rfl) (cats rfl) (rcv_s rfl hx) (p_X6_append_full (d + 1) hR hk c hc hn _ _ _ _ _) rfl rfl
  refine ru_st 1 rfl rfl ?_
  refine ru_call [_] _ 4 rfl rfl rfl rfl rfl (Nat.le_of_ble_eq_true rfl) (cats rfl) (rcv_n rfl) (p_reqClinic_y (d + 2) ⟨c, hc, rfl⟩ _) rfl ?_
  refine ru_st 5 rfl rfl ?_
  refine ru_getf 8 rfl hx rfl rfl ?_
  refine ru_st 9 rfl rfl ?_
  refine ru_aalN 10 rfl hf6 (by omega) (by decide) (hf6b c hc) rfl ?_
  refine ru_st 11 rfl rfl ?_
  refine ru_st 12 rfl rfl ?_
  refine ru_st 13 rfl rfl ?_
  refine ru_call [_, _] _ 16 rfl rfl rfl rfl rfl (Nat.le_of_ble_eq_true rfl) (cats rfl) (rcv_s rfl hb.1) (p_X0_kindOf (d + 3) hb hn24 hA (nI x)) rfl ?_
  refine ru_ic 17 (nI 1) rfl (by decide) rfl ?_
  refine ru_cmpI 20 rfl rfl (fun h17 => ?_) (fun h17 => ?_)
  · dsimp only [cI] at h17
    have hz : ¬ (kdv (fun j => A 3 (24 * c + j)) (n c) (nI x)) = nI 1 := h17
    refine ru_ic 25 (nI 0) rfl (by decide) rfl ?_
    exact J _ (by first | exact (bI_t hz).symm | exact (bI_f hz).symm)
  · dsimp only [cI] at h17
    have hz : (kdv (fun j => A 3 (24 * c + j)) (n c) (nI x)) = nI 1 := Classical.byContradiction h17
    refine ru_ic 21 (nI 1) rfl (by decide) rfl ?_
    refine ru_st 25 rfl rfl ?_
    exact J _ (by first | exact (bI_t hz).symm | exact (bI_f hz).symm)
theorem p_X6_strike_ok (d : Nat) {G : ma_G} {A : Nat → Nat → Int32} {n : Nat → Nat} {kn : Nat → Nat → Nat} {hr : Nat → Nat → Nat → Nat} (hR : cRd A n kn hr G) (hk : mKn A n kn) (c : Nat) (hc : c < 4) (x : Nat) (hx0 : x < n c) (h1 : A 3 (24 * c + x) = nI 1) (hst : ¬ strk A c (nI x) (n c)) (hcc : kn c c = n c) (hn : n c < 24) : Cq (d + 5) 49 [.ref 1, .int (nI c), .int (nI x)] G (ad6 A n kn hr G c (nI 2) (nI x) (nI 0) (nI 0) (nI 0)) := by
  refine cq_of rfl ?_
  obtain ⟨⟨hx, ⟨f2, hf2, hf2b⟩, ⟨f6, hf6, hf6b⟩, ⟨f7, hf7, hf7b⟩, ⟨f32, hf32, hf32b⟩⟩, hbk, hcl⟩ := id hR
  obtain ⟨K, N, hb, hA⟩ := hbk c hc
  have hn24 := (hk.1 c hc).2
  have hkx : (kdv (fun j => A 3 (24 * c + j)) (n c) (nI x)) = nI 1 := by rw [kdv_N hx0 hn24]; exact h1
  have J : ∀ u : Int32, u = bI ((kdv (fun j => A 3 (24 * c + j)) (n c) (nI x)) = nI 1) → Rq (d + 4) M_X6_strike 25 [some (.ref 1), some (.int (nI c)), some (.int (nI x)), some (.ref (8 + 6 * c))] [.int u] G (Qr (ad6 A n kn hr G c (nI 2) (nI x) (nI 0) (nI 0) (nI 0))) := by
    intro u hu
    subst hu
    refine rq_call [_] _ 28 rfl rfl rfl rfl rfl (Nat.le_of_ble_eq_true rfl) (cats rfl) (rcv_n rfl) (p_require_y (d + 3) hkx _) rfl ?_
    refine rq_st 29 rfl rfl ?_
    refine rq_st 30 rfl rfl ?_
    refine rq_st 31 rfl rfl ?_
    refine rq_call [_] _ 34 rfl rfl rfl rfl rfl (Nat.le_of_ble_eq_true rfl) (cats rfl) (rcv_s rfl hb.1) (p_X0_size (d + 3) hb) rfl ?_
    refine rq_call [_, _, _] _ 37 rfl rfl rfl rfl rfl (Nat.le_of_ble_eq_true rfl) (cats rfl) (rcv_s rfl hb.1) (p_X0_isStruck (d + 2) hb hn24 hA (nI x) (n c) (Nat.le_refl _)) rfl ?_
    refine rq_ift rfl ((bI_if _).1.mpr (hst)) ?_
    refine rq_st 51 rfl rfl ?_
    refine rq_st 52 rfl rfl ?_
    refine rq_ic 53 (nI 2) rfl (by decide) rfl ?_
    refine rq_st 54 rfl rfl ?_
    refine rq_ic 55 (nI 0) rfl (by decide) rfl ?_
    refine rq_ic 56 (nI 0) rfl (by decide) rfl ?_
    refine rq_ic 57 (nI 0) rfl (by decide) rfl ?_
    refine rq_callq [_, _, _, _, _, _, _] _ 60 rfl rfl rfl rfl rfl (Nat.le_of_ble_eq_true rfl) (cats rfl) (rcv_s rfl hx) (p_X6_append (d + 1) hR hk c hc hcc hn _ _ _ _ _) rfl (fun v9 G3 hv9 => ?_)
    obtain ⟨rfl, hv9⟩ := hv9
    exact rq_iret rfl rfl rfl ⟨rfl, hv9⟩
  refine rq_st 1 rfl rfl ?_
  refine rq_call [_] _ 4 rfl rfl rfl rfl rfl (Nat.le_of_ble_eq_true rfl) (cats rfl) (rcv_n rfl) (p_reqClinic_y (d + 2) ⟨c, hc, rfl⟩ _) rfl ?_
  refine rq_st 5 rfl rfl ?_
  refine rq_getf 8 rfl hx rfl rfl ?_
  refine rq_st 9 rfl rfl ?_
  refine rq_aalN 10 rfl hf6 (by omega) (by decide) (hf6b c hc) rfl ?_
  refine rq_st 11 rfl rfl ?_
  refine rq_st 12 rfl rfl ?_
  refine rq_st 13 rfl rfl ?_
  refine rq_call [_, _] _ 16 rfl rfl rfl rfl rfl (Nat.le_of_ble_eq_true rfl) (cats rfl) (rcv_s rfl hb.1) (p_X0_kindOf (d + 3) hb hn24 hA (nI x)) rfl ?_
  refine rq_ic 17 (nI 1) rfl (by decide) rfl ?_
  refine rq_cmpI 20 rfl rfl (fun h17 => ?_) (fun h17 => ?_)
  · dsimp only [cI] at h17
    have hz : ¬ (kdv (fun j => A 3 (24 * c + j)) (n c) (nI x)) = nI 1 := h17
    refine rq_ic 25 (nI 0) rfl (by decide) rfl ?_
    exact J _ (by first | exact (bI_t hz).symm | exact (bI_f hz).symm)
  · dsimp only [cI] at h17
    have hz : (kdv (fun j => A 3 (24 * c + j)) (n c) (nI x)) = nI 1 := Classical.byContradiction h17
    refine rq_ic 21 (nI 1) rfl (by decide) rfl ?_
    refine rq_st 25 rfl rfl ?_
    exact J _ (by first | exact (bI_t hz).symm | exact (bI_f hz).symm)
theorem p_X6_hasAnyEntry (d : Nat) {G : ma_G} {A : Nat → Nat → Int32} {n : Nat → Nat} {kn : Nat → Nat → Nat} {hr : Nat → Nat → Nat → Nat} (hR : cRd A n kn hr G) (hk : mKn A n kn) : Ca (d + 2) 36 [.ref 1] G (.inl (some (.int (bI (anyN n)))), G, 0, 0) := by
  refine ca_of rfl ?_
  obtain ⟨⟨hx, ⟨f2, hf2, hf2b⟩, ⟨f6, hf6, hf6b⟩, ⟨f7, hf7, hf7b⟩, ⟨f32, hf32, hf32b⟩⟩, hbk, hcl⟩ := id hR
  have loop : ∀ (m dd : Nat), dd + m = 4 → (∀ x, x < dd → n x = 0) → Ru (d + 1) M_X6_hasAnyEntry 2 [some (.ref 1), some (.int (nI dd))] [] G (.inl (some (.int (bI (anyN n)))), G, 0, 0) := by
    intro m
    induction m with
    | zero =>
      intro dd hdd hno
      have e0 := hno 0 (by omega)
      have e1 := hno 1 (by omega)
      have e2 := hno 2 (by omega)
      have e3 := hno 3 (by omega)
      refine ru_st 3 rfl rfl ?_
      refine ru_ic 4 (nI 4) rfl (by decide) rfl ?_
      refine ru_cmpt rfl ((ma_cmpN (by omega) (by omega)).mpr (by show 4 ≤ dd; omega)) ?_
      refine ru_ic 28 (nI 0) rfl (by decide) rfl ?_
      exact ru_ire rfl rfl (bI_f (fun q => by unfold anyN at q; omega)).symm (bI_nb _)
    | succ m ih =>
      intro dd hdd hno
      obtain ⟨K, N, hb, hA⟩ := hbk dd (by omega)
      have hn24 := (hk.1 dd (by omega)).2
      refine ru_st 3 rfl rfl ?_
      refine ru_ic 4 (nI 4) rfl (by decide) rfl ?_
      refine ru_cmpf 7 rfl rfl (by rw [← Bool.not_eq_true, ma_cmpN (by omega) (by omega)]; show ¬ 4 ≤ dd; omega) ?_
      refine ru_st 8 rfl rfl ?_
      refine ru_getf 11 rfl hx rfl rfl ?_
      refine ru_st 12 rfl rfl ?_
      refine ru_aalN 13 rfl hf6 (by omega) (by decide) (hf6b dd (by omega)) rfl ?_
      refine ru_call [_] _ 16 rfl rfl rfl rfl rfl (Nat.le_of_ble_eq_true rfl) (cats rfl) (rcv_s rfl hb.1) (p_X0_size d hb) rfl ?_
      refine ru_ifN 19 rfl rfl (by omega) (fun h16 => ?_) (fun h16 => ?_)
      · dsimp only [cN] at h16
        refine ru_incN 24 _ rfl rfl (nI_1 _) rfl rfl ?_
        refine ru_st 2 rfl rfl ?_
        exact ih (dd + 1) (by omega) (fun x hx => by
          by_cases e : x = dd
          · rw [e]; omega
          · exact hno x (by omega))
      · dsimp only [cN] at h16
        refine ru_ic 20 (nI 1) rfl (by decide) rfl ?_
        exact ru_ire rfl rfl (bI_t (by
  unfold anyN
  rcases (show dd = 0 ∨ dd = 1 ∨ dd = 2 ∨ dd = 3 by omega) with rfl | rfl | rfl | rfl <;> omega)).symm (bI_nb _)
  refine ru_ic 1 (nI 0) rfl (by decide) rfl ?_
  refine ru_st 2 rfl rfl ?_
  exact loop 4 0 (by omega) (fun x hx => absurd hx (Nat.not_lt_zero x))
def scQ6 (G : ma_G) (p : Nat) (z g1 g2 g3 : Int32) (r : Option Value) (G' : ma_G) : Prop := r = none ∧ sm (fun x => x = 3 + p) G G' ∧ ma_obj G' (3 + p) 4 = some [.int z, .int g1, .int g2, .int g3]
theorem p_X6_schedule_bad (d : Nat) {G : ma_G} {v z g1 g2 g3 : Int32} (h : ¬ okSc v z g1 g2 g3) : Ca (d + 5) 32 [.ref 1, .int v, .int z, .int g1, .int g2, .int g3] G (.inr 8001, G, 1, 6) := by
  refine ca_of rfl ?_
  have J81 : ∀ u : Int32, u = bI (z < nI 4 ∨ inN g3 1001) → inN v 3 → (¬ z < nI 1 ∧ ¬ nI 4 < z) → (z < nI 2 ∨ inN g1 1001) → (z < nI 3 ∨ inN g2 1001) → Ru (d + 4) M_X6_schedule 81 [some (.ref 1), some (.int v), some (.int z), some (.int g1), some (.int g2), some (.int g3)] [.int u] G (.inr 8001, G, 1, 6) := by
    intro u hu hq1 hq19 hq39 hq60
    subst hu
    by_cases hq81 : (z < nI 4 ∨ inN g3 1001)
    rotate_left
    · exact ru_callt [_] _ rfl rfl rfl rfl rfl (Nat.le_of_ble_eq_true rfl) (cats rfl) (rcv_n rfl) (p_require_n (d + 1) hq81 _) rfl rfl
    refine ru_call [_] _ 84 rfl rfl rfl rfl rfl (Nat.le_of_ble_eq_true rfl) (cats rfl) (rcv_n rfl) (p_require_y (d + 3) hq81 _) rfl ?_
    exact absurd ⟨⟨hq1, hq19⟩, hq39, hq60, hq81⟩ h
  have J60 : ∀ u : Int32, u = bI (z < nI 3 ∨ inN g2 1001) → inN v 3 → (¬ z < nI 1 ∧ ¬ nI 4 < z) → (z < nI 2 ∨ inN g1 1001) → Ru (d + 4) M_X6_schedule 60 [some (.ref 1), some (.int v), some (.int z), some (.int g1), some (.int g2), some (.int g3)] [.int u] G (.inr 8001, G, 1, 6) := by
    intro u hu hq1 hq19 hq39
    subst hu
    by_cases hq60 : (z < nI 3 ∨ inN g2 1001)
    rotate_left
    · exact ru_callt [_] _ rfl rfl rfl rfl rfl (Nat.le_of_ble_eq_true rfl) (cats rfl) (rcv_n rfl) (p_require_n (d + 1) hq60 _) rfl rfl
    refine ru_call [_] _ 63 rfl rfl rfl rfl rfl (Nat.le_of_ble_eq_true rfl) (cats rfl) (rcv_n rfl) (p_require_y (d + 3) hq60 _) rfl ?_
    refine ru_st 64 rfl rfl ?_
    refine ru_ic 65 (nI 4) rfl (by decide) rfl ?_
    refine ru_cmpI 68 rfl rfl (fun h65 => ?_) (fun h65 => ?_)
    · dsimp only [cI] at h65
      have hz : (z < nI 4 ∨ inN g3 1001) := Or.inl h65
      refine ru_ic 77 (nI 1) rfl (by decide) rfl ?_
      refine ru_st 81 rfl rfl ?_
      exact J81 _ (by first | exact (bI_t hz).symm | exact (bI_f hz).symm) hq1 hq19 hq39 hq60
    · dsimp only [cI] at h65
      refine ru_st 70 rfl rfl ?_
      refine ru_call [_] _ 73 rfl rfl rfl rfl rfl (Nat.le_of_ble_eq_true rfl) (cats rfl) (rcv_n rfl) (p_X6_isGap (d + 3) _ _) rfl ?_
      refine ru_ifB 76 rfl rfl (fun h73 => ?_) (fun h73 => ?_)
      · skip
        have hz : ¬ (z < nI 4 ∨ inN g3 1001) := fun q => q.elim h65 h73
        refine ru_ic 81 (nI 0) rfl (by decide) rfl ?_
        exact J81 _ (by first | exact (bI_t hz).symm | exact (bI_f hz).symm) hq1 hq19 hq39 hq60
      · skip
        have hz : (z < nI 4 ∨ inN g3 1001) := Or.inr h73
        refine ru_ic 77 (nI 1) rfl (by decide) rfl ?_
        refine ru_st 81 rfl rfl ?_
        exact J81 _ (by first | exact (bI_t hz).symm | exact (bI_f hz).symm) hq1 hq19 hq39 hq60
  have J39 : ∀ u : Int32, u = bI (z < nI 2 ∨ inN g1 1001) → inN v 3 → (¬ z < nI 1 ∧ ¬ nI 4 < z) → Ru (d + 4) M_X6_schedule 39 [some (.ref 1), some (.int v), some (.int z), some (.int g1), some (.int g2), some (.int g3)] [.int u] G (.inr 8001, G, 1, 6) := by
    intro u hu hq1 hq19
    subst hu
    by_cases hq39 : (z < nI 2 ∨ inN g1 1001)
    rotate_left
    · exact ru_callt [_] _ rfl rfl rfl rfl rfl (Nat.le_of_ble_eq_true rfl) (cats rfl) (rcv_n rfl) (p_require_n (d + 1) hq39 _) rfl rfl
    refine ru_call [_] _ 42 rfl rfl rfl rfl rfl (Nat.le_of_ble_eq_true rfl) (cats rfl) (rcv_n rfl) (p_require_y (d + 3) hq39 _) rfl ?_
    refine ru_st 43 rfl rfl ?_
    refine ru_ic 44 (nI 3) rfl (by decide) rfl ?_
    refine ru_cmpI 47 rfl rfl (fun h44 => ?_) (fun h44 => ?_)
    · dsimp only [cI] at h44
      have hz : (z < nI 3 ∨ inN g2 1001) := Or.inl h44
      refine ru_ic 56 (nI 1) rfl (by decide) rfl ?_
      refine ru_st 60 rfl rfl ?_
      exact J60 _ (by first | exact (bI_t hz).symm | exact (bI_f hz).symm) hq1 hq19 hq39
    · dsimp only [cI] at h44
      refine ru_st 49 rfl rfl ?_
      refine ru_call [_] _ 52 rfl rfl rfl rfl rfl (Nat.le_of_ble_eq_true rfl) (cats rfl) (rcv_n rfl) (p_X6_isGap (d + 3) _ _) rfl ?_
      refine ru_ifB 55 rfl rfl (fun h52 => ?_) (fun h52 => ?_)
      · skip
        have hz : ¬ (z < nI 3 ∨ inN g2 1001) := fun q => q.elim h44 h52
        refine ru_ic 60 (nI 0) rfl (by decide) rfl ?_
        exact J60 _ (by first | exact (bI_t hz).symm | exact (bI_f hz).symm) hq1 hq19 hq39
      · skip
        have hz : (z < nI 3 ∨ inN g2 1001) := Or.inr h52
        refine ru_ic 56 (nI 1) rfl (by decide) rfl ?_
        refine ru_st 60 rfl rfl ?_
        exact J60 _ (by first | exact (bI_t hz).symm | exact (bI_f hz).symm) hq1 hq19 hq39
  have J19 : ∀ u : Int32, u = bI (¬ z < nI 1 ∧ ¬ nI 4 < z) → inN v 3 → Ru (d + 4) M_X6_schedule 19 [some (.ref 1), some (.int v), some (.int z), some (.int g1), some (.int g2), some (.int g3)] [.int u] G (.inr 8001, G, 1, 6) := by
    intro u hu hq1
    subst hu
    by_cases hq19 : (¬ z < nI 1 ∧ ¬ nI 4 < z)
    rotate_left
    · exact ru_callt [_] _ rfl rfl rfl rfl rfl (Nat.le_of_ble_eq_true rfl) (cats rfl) (rcv_n rfl) (p_require_n (d + 1) hq19 _) rfl rfl
    refine ru_call [_] _ 22 rfl rfl rfl rfl rfl (Nat.le_of_ble_eq_true rfl) (cats rfl) (rcv_n rfl) (p_require_y (d + 3) hq19 _) rfl ?_
    refine ru_st 23 rfl rfl ?_
    refine ru_ic 24 (nI 2) rfl (by decide) rfl ?_
    refine ru_cmpI 27 rfl rfl (fun h24 => ?_) (fun h24 => ?_)
    · dsimp only [cI] at h24
      have hz : (z < nI 2 ∨ inN g1 1001) := Or.inl h24
      refine ru_ic 35 (nI 1) rfl (by decide) rfl ?_
      refine ru_st 39 rfl rfl ?_
      exact J39 _ (by first | exact (bI_t hz).symm | exact (bI_f hz).symm) hq1 hq19
    · dsimp only [cI] at h24
      refine ru_st 28 rfl rfl ?_
      refine ru_call [_] _ 31 rfl rfl rfl rfl rfl (Nat.le_of_ble_eq_true rfl) (cats rfl) (rcv_n rfl) (p_X6_isGap (d + 3) _ _) rfl ?_
      refine ru_ifB 34 rfl rfl (fun h31 => ?_) (fun h31 => ?_)
      · skip
        have hz : ¬ (z < nI 2 ∨ inN g1 1001) := fun q => q.elim h24 h31
        refine ru_ic 39 (nI 0) rfl (by decide) rfl ?_
        exact J39 _ (by first | exact (bI_t hz).symm | exact (bI_f hz).symm) hq1 hq19
      · skip
        have hz : (z < nI 2 ∨ inN g1 1001) := Or.inr h31
        refine ru_ic 35 (nI 1) rfl (by decide) rfl ?_
        refine ru_st 39 rfl rfl ?_
        exact J39 _ (by first | exact (bI_t hz).symm | exact (bI_f hz).symm) hq1 hq19
  refine ru_st 1 rfl rfl ?_
  by_cases hq1 : inN v 3
  rotate_left
  · exact ru_callt [_] _ rfl rfl rfl rfl rfl (Nat.le_of_ble_eq_true rfl) (cats rfl) (rcv_n rfl) (p_reqVaccine_n d hq1 _) rfl rfl
  refine ru_call [_] _ 4 rfl rfl rfl rfl rfl (Nat.le_of_ble_eq_true rfl) (cats rfl) (rcv_n rfl) (p_reqVaccine_y (d + 2) hq1 _) rfl ?_
  refine ru_st 5 rfl rfl ?_
  refine ru_ic 6 (nI 1) rfl (by decide) rfl ?_
  refine ru_cmpI 9 rfl rfl (fun h6 => ?_) (fun h6 => ?_)
  · dsimp only [cI] at h6
    have hz : ¬ (¬ z < nI 1 ∧ ¬ nI 4 < z) := fun q => q.1 h6
    refine ru_ic 19 (nI 0) rfl (by decide) rfl ?_
    exact J19 _ (by first | exact (bI_t hz).symm | exact (bI_f hz).symm) hq1
  · dsimp only [cI] at h6
    refine ru_st 10 rfl rfl ?_
    refine ru_ic 11 (nI 4) rfl (by decide) rfl ?_
    refine ru_cmpI 14 rfl rfl (fun h11 => ?_) (fun h11 => ?_)
    · dsimp only [cI] at h11
      have hz : ¬ (¬ z < nI 1 ∧ ¬ nI 4 < z) := fun q => q.2 h11
      refine ru_ic 19 (nI 0) rfl (by decide) rfl ?_
      exact J19 _ (by first | exact (bI_t hz).symm | exact (bI_f hz).symm) hq1
    · dsimp only [cI] at h11
      have hz : (¬ z < nI 1 ∧ ¬ nI 4 < z) := ⟨h6, h11⟩
      refine ru_ic 15 (nI 1) rfl (by decide) rfl ?_
      refine ru_st 19 rfl rfl ?_
      exact J19 _ (by first | exact (bI_t hz).symm | exact (bI_f hz).symm) hq1
theorem p_X6_schedule_any (d : Nat) {G : ma_G} {A : Nat → Nat → Int32} {n : Nat → Nat} {kn : Nat → Nat → Nat} {hr : Nat → Nat → Nat → Nat} (hR : cRd A n kn hr G) (hk : mKn A n kn) {p : Nat} (hp : p < 3) {z g1 g2 g3 : Int32} (h : okSc (nI p) z g1 g2 g3) (ha : anyN n) : Ca (d + 5) 32 [.ref 1, .int (nI p), .int z, .int g1, .int g2, .int g3] G (.inr 8002, G, 1, 6) := by
  refine ca_of rfl ?_
  obtain ⟨⟨hx, ⟨f2, hf2, hf2b⟩, ⟨f6, hf6, hf6b⟩, ⟨f7, hf7, hf7b⟩, ⟨f32, hf32, hf32b⟩⟩, hbk, hcl⟩ := id hR
  have J81 : ∀ u : Int32, u = bI (z < nI 4 ∨ inN g3 1001) → Ru (d + 4) M_X6_schedule 81 [some (.ref 1), some (.int (nI p)), some (.int z), some (.int g1), some (.int g2), some (.int g3)] [.int u] G (.inr 8002, G, 1, 6) := by
    intro u hu 
    subst hu
    refine ru_call [_] _ 84 rfl rfl rfl rfl rfl (Nat.le_of_ble_eq_true rfl) (cats rfl) (rcv_n rfl) (p_require_y (d + 3) (show (z < nI 4 ∨ inN g3 1001) from h.2.2.2) _) rfl ?_
    refine ru_st 85 rfl rfl ?_
    refine ru_call [_] _ 88 rfl rfl rfl rfl rfl (Nat.le_of_ble_eq_true rfl) (cats rfl) (rcv_s rfl hx) (p_X6_hasAnyEntry (d + 2) hR hk) rfl ?_
    refine ru_iff 91 rfl rfl (by rw [← Bool.not_eq_true, (bI_if _).1]; exact fun q => q (ha)) ?_
    exact ru_thr rfl (by decide) (by decide) (by omega) rfl (Nat.le_of_ble_eq_true rfl)
  have J60 : ∀ u : Int32, u = bI (z < nI 3 ∨ inN g2 1001) → Ru (d + 4) M_X6_schedule 60 [some (.ref 1), some (.int (nI p)), some (.int z), some (.int g1), some (.int g2), some (.int g3)] [.int u] G (.inr 8002, G, 1, 6) := by
    intro u hu 
    subst hu
    refine ru_call [_] _ 63 rfl rfl rfl rfl rfl (Nat.le_of_ble_eq_true rfl) (cats rfl) (rcv_n rfl) (p_require_y (d + 3) (show (z < nI 3 ∨ inN g2 1001) from h.2.2.1) _) rfl ?_
    refine ru_st 64 rfl rfl ?_
    refine ru_ic 65 (nI 4) rfl (by decide) rfl ?_
    refine ru_cmpI 68 rfl rfl (fun h65 => ?_) (fun h65 => ?_)
    · dsimp only [cI] at h65
      have hz : (z < nI 4 ∨ inN g3 1001) := Or.inl h65
      refine ru_ic 77 (nI 1) rfl (by decide) rfl ?_
      refine ru_st 81 rfl rfl ?_
      exact J81 _ (by first | exact (bI_t hz).symm | exact (bI_f hz).symm)
    · dsimp only [cI] at h65
      refine ru_st 70 rfl rfl ?_
      refine ru_call [_] _ 73 rfl rfl rfl rfl rfl (Nat.le_of_ble_eq_true rfl) (cats rfl) (rcv_n rfl) (p_X6_isGap (d + 3) _ _) rfl ?_
      refine ru_ifB 76 rfl rfl (fun h73 => ?_) (fun h73 => ?_)
      · skip
        have hz : ¬ (z < nI 4 ∨ inN g3 1001) := fun q => q.elim h65 h73
        refine ru_ic 81 (nI 0) rfl (by decide) rfl ?_
        exact J81 _ (by first | exact (bI_t hz).symm | exact (bI_f hz).symm)
      · skip
        have hz : (z < nI 4 ∨ inN g3 1001) := Or.inr h73
        refine ru_ic 77 (nI 1) rfl (by decide) rfl ?_
        refine ru_st 81 rfl rfl ?_
        exact J81 _ (by first | exact (bI_t hz).symm | exact (bI_f hz).symm)
  have J39 : ∀ u : Int32, u = bI (z < nI 2 ∨ inN g1 1001) → Ru (d + 4) M_X6_schedule 39 [some (.ref 1), some (.int (nI p)), some (.int z), some (.int g1), some (.int g2), some (.int g3)] [.int u] G (.inr 8002, G, 1, 6) := by
    intro u hu 
    subst hu
    refine ru_call [_] _ 42 rfl rfl rfl rfl rfl (Nat.le_of_ble_eq_true rfl) (cats rfl) (rcv_n rfl) (p_require_y (d + 3) (show (z < nI 2 ∨ inN g1 1001) from h.2.1) _) rfl ?_
    refine ru_st 43 rfl rfl ?_
    refine ru_ic 44 (nI 3) rfl (by decide) rfl ?_
    refine ru_cmpI 47 rfl rfl (fun h44 => ?_) (fun h44 => ?_)
    · dsimp only [cI] at h44
      have hz : (z < nI 3 ∨ inN g2 1001) := Or.inl h44
      refine ru_ic 56 (nI 1) rfl (by decide) rfl ?_
      refine ru_st 60 rfl rfl ?_
      exact J60 _ (by first | exact (bI_t hz).symm | exact (bI_f hz).symm)
    · dsimp only [cI] at h44
      refine ru_st 49 rfl rfl ?_
      refine ru_call [_] _ 52 rfl rfl rfl rfl rfl (Nat.le_of_ble_eq_true rfl) (cats rfl) (rcv_n rfl) (p_X6_isGap (d + 3) _ _) rfl ?_
      refine ru_ifB 55 rfl rfl (fun h52 => ?_) (fun h52 => ?_)
      · skip
        have hz : ¬ (z < nI 3 ∨ inN g2 1001) := fun q => q.elim h44 h52
        refine ru_ic 60 (nI 0) rfl (by decide) rfl ?_
        exact J60 _ (by first | exact (bI_t hz).symm | exact (bI_f hz).symm)
      · skip
        have hz : (z < nI 3 ∨ inN g2 1001) := Or.inr h52
        refine ru_ic 56 (nI 1) rfl (by decide) rfl ?_
        refine ru_st 60 rfl rfl ?_
        exact J60 _ (by first | exact (bI_t hz).symm | exact (bI_f hz).symm)
  have J19 : ∀ u : Int32, u = bI (¬ z < nI 1 ∧ ¬ nI 4 < z) → Ru (d + 4) M_X6_schedule 19 [some (.ref 1), some (.int (nI p)), some (.int z), some (.int g1), some (.int g2), some (.int g3)] [.int u] G (.inr 8002, G, 1, 6) := by
    intro u hu 
    subst hu
    refine ru_call [_] _ 22 rfl rfl rfl rfl rfl (Nat.le_of_ble_eq_true rfl) (cats rfl) (rcv_n rfl) (p_require_y (d + 3) (show (¬ z < nI 1 ∧ ¬ nI 4 < z) from ⟨h.1.2.1, h.1.2.2⟩) _) rfl ?_
    refine ru_st 23 rfl rfl ?_
    refine ru_ic 24 (nI 2) rfl (by decide) rfl ?_
    refine ru_cmpI 27 rfl rfl (fun h24 => ?_) (fun h24 => ?_)
    · dsimp only [cI] at h24
      have hz : (z < nI 2 ∨ inN g1 1001) := Or.inl h24
      refine ru_ic 35 (nI 1) rfl (by decide) rfl ?_
      refine ru_st 39 rfl rfl ?_
      exact J39 _ (by first | exact (bI_t hz).symm | exact (bI_f hz).symm)
    · dsimp only [cI] at h24
      refine ru_st 28 rfl rfl ?_
      refine ru_call [_] _ 31 rfl rfl rfl rfl rfl (Nat.le_of_ble_eq_true rfl) (cats rfl) (rcv_n rfl) (p_X6_isGap (d + 3) _ _) rfl ?_
      refine ru_ifB 34 rfl rfl (fun h31 => ?_) (fun h31 => ?_)
      · skip
        have hz : ¬ (z < nI 2 ∨ inN g1 1001) := fun q => q.elim h24 h31
        refine ru_ic 39 (nI 0) rfl (by decide) rfl ?_
        exact J39 _ (by first | exact (bI_t hz).symm | exact (bI_f hz).symm)
      · skip
        have hz : (z < nI 2 ∨ inN g1 1001) := Or.inr h31
        refine ru_ic 35 (nI 1) rfl (by decide) rfl ?_
        refine ru_st 39 rfl rfl ?_
        exact J39 _ (by first | exact (bI_t hz).symm | exact (bI_f hz).symm)
  refine ru_st 1 rfl rfl ?_
  refine ru_call [_] _ 4 rfl rfl rfl rfl rfl (Nat.le_of_ble_eq_true rfl) (cats rfl) (rcv_n rfl) (p_reqVaccine_y (d + 2) h.1.1 _) rfl ?_
  refine ru_st 5 rfl rfl ?_
  refine ru_ic 6 (nI 1) rfl (by decide) rfl ?_
  refine ru_cmpI 9 rfl rfl (fun h6 => ?_) (fun h6 => ?_)
  · dsimp only [cI] at h6
    have hz : ¬ (¬ z < nI 1 ∧ ¬ nI 4 < z) := fun q => q.1 h6
    refine ru_ic 19 (nI 0) rfl (by decide) rfl ?_
    exact J19 _ (by first | exact (bI_t hz).symm | exact (bI_f hz).symm)
  · dsimp only [cI] at h6
    refine ru_st 10 rfl rfl ?_
    refine ru_ic 11 (nI 4) rfl (by decide) rfl ?_
    refine ru_cmpI 14 rfl rfl (fun h11 => ?_) (fun h11 => ?_)
    · dsimp only [cI] at h11
      have hz : ¬ (¬ z < nI 1 ∧ ¬ nI 4 < z) := fun q => q.2 h11
      refine ru_ic 19 (nI 0) rfl (by decide) rfl ?_
      exact J19 _ (by first | exact (bI_t hz).symm | exact (bI_f hz).symm)
    · dsimp only [cI] at h11
      have hz : (¬ z < nI 1 ∧ ¬ nI 4 < z) := ⟨h6, h11⟩
      refine ru_ic 15 (nI 1) rfl (by decide) rfl ?_
      refine ru_st 19 rfl rfl ?_
      exact J19 _ (by first | exact (bI_t hz).symm | exact (bI_f hz).symm)
theorem p_X6_schedule_ok (d : Nat) {G : ma_G} {A : Nat → Nat → Int32} {n : Nat → Nat} {kn : Nat → Nat → Nat} {hr : Nat → Nat → Nat → Nat} (hR : cRd A n kn hr G) (hk : mKn A n kn) {dz : Nat → Nat} (hSc : cSc A dz G) {p : Nat} (hp : p < 3) {z g1 g2 g3 : Int32} (h : okSc (nI p) z g1 g2 g3) (ha : ¬ anyN n) : Cq (d + 5) 32 [.ref 1, .int (nI p), .int z, .int g1, .int g2, .int g3] G (scQ6 G p z g1 g2 g3) := by
  refine cq_of rfl ?_
  obtain ⟨⟨hx, ⟨f2, hf2, hf2b⟩, ⟨f6, hf6, hf6b⟩, ⟨f7, hf7, hf7b⟩, ⟨f32, hf32, hf32b⟩⟩, hbk, hcl⟩ := id hR
  have J81 : ∀ u : Int32, u = bI (z < nI 4 ∨ inN g3 1001) → Rq (d + 4) M_X6_schedule 81 [some (.ref 1), some (.int (nI p)), some (.int z), some (.int g1), some (.int g2), some (.int g3)] [.int u] G (Qr (scQ6 G p z g1 g2 g3)) := by
    intro u hu 
    subst hu
    refine rq_call [_] _ 84 rfl rfl rfl rfl rfl (Nat.le_of_ble_eq_true rfl) (cats rfl) (rcv_n rfl) (p_require_y (d + 3) (show (z < nI 4 ∨ inN g3 1001) from h.2.2.2) _) rfl ?_
    refine rq_st 85 rfl rfl ?_
    refine rq_call [_] _ 88 rfl rfl rfl rfl rfl (Nat.le_of_ble_eq_true rfl) (cats rfl) (rcv_s rfl hx) (p_X6_hasAnyEntry (d + 2) hR hk) rfl ?_
    refine rq_ift rfl ((bI_if _).1.mpr (ha)) ?_
    refine rq_st 102 rfl rfl ?_
    refine rq_getf 105 rfl hx rfl rfl ?_
    refine rq_st 106 rfl rfl ?_
    refine rq_aalN 107 rfl hf2 (by omega) (by decide) (hf2b p hp) rfl ?_
    refine rq_st 108 rfl rfl ?_
    refine rq_st 109 rfl rfl ?_
    refine rq_st 111 rfl rfl ?_
    refine rq_st 113 rfl rfl ?_
    refine rq_callq [_, _, _, _, _] _ 116 rfl rfl rfl rfl rfl (Nat.le_of_ble_eq_true rfl) (cats rfl) (rcv_s rfl (hSc p hp)) (p_X4_set (d + 3) (hSc p hp) z g1 g2 g3) rfl (fun v9 G3 hv9 => ?_)
    obtain ⟨rfl, hv9⟩ := hv9
    exact rq_vret rfl rfl ⟨rfl, hv9⟩
  have J60 : ∀ u : Int32, u = bI (z < nI 3 ∨ inN g2 1001) → Rq (d + 4) M_X6_schedule 60 [some (.ref 1), some (.int (nI p)), some (.int z), some (.int g1), some (.int g2), some (.int g3)] [.int u] G (Qr (scQ6 G p z g1 g2 g3)) := by
    intro u hu 
    subst hu
    refine rq_call [_] _ 63 rfl rfl rfl rfl rfl (Nat.le_of_ble_eq_true rfl) (cats rfl) (rcv_n rfl) (p_require_y (d + 3) (show (z < nI 3 ∨ inN g2 1001) from h.2.2.1) _) rfl ?_
    refine rq_st 64 rfl rfl ?_
    refine rq_ic 65 (nI 4) rfl (by decide) rfl ?_
    refine rq_cmpI 68 rfl rfl (fun h65 => ?_) (fun h65 => ?_)
    · dsimp only [cI] at h65
      have hz : (z < nI 4 ∨ inN g3 1001) := Or.inl h65
      refine rq_ic 77 (nI 1) rfl (by decide) rfl ?_
      refine rq_st 81 rfl rfl ?_
      exact J81 _ (by first | exact (bI_t hz).symm | exact (bI_f hz).symm)
    · dsimp only [cI] at h65
      refine rq_st 70 rfl rfl ?_
      refine rq_call [_] _ 73 rfl rfl rfl rfl rfl (Nat.le_of_ble_eq_true rfl) (cats rfl) (rcv_n rfl) (p_X6_isGap (d + 3) _ _) rfl ?_
      refine rq_ifB 76 rfl rfl (fun h73 => ?_) (fun h73 => ?_)
      · skip
        have hz : ¬ (z < nI 4 ∨ inN g3 1001) := fun q => q.elim h65 h73
        refine rq_ic 81 (nI 0) rfl (by decide) rfl ?_
        exact J81 _ (by first | exact (bI_t hz).symm | exact (bI_f hz).symm)
      · skip
        have hz : (z < nI 4 ∨ inN g3 1001) := Or.inr h73
        refine rq_ic 77 (nI 1) rfl (by decide) rfl ?_
        refine rq_st 81 rfl rfl ?_
        exact J81 _ (by first | exact (bI_t hz).symm | exact (bI_f hz).symm)
  have J39 : ∀ u : Int32, u = bI (z < nI 2 ∨ inN g1 1001) → Rq (d + 4) M_X6_schedule 39 [some (.ref 1), some (.int (nI p)), some (.int z), some (.int g1), some (.int g2), some (.int g3)] [.int u] G (Qr (scQ6 G p z g1 g2 g3)) := by
    intro u hu 
    subst hu
    refine rq_call [_] _ 42 rfl rfl rfl rfl rfl (Nat.le_of_ble_eq_true rfl) (cats rfl) (rcv_n rfl) (p_require_y (d + 3) (show (z < nI 2 ∨ inN g1 1001) from h.2.1) _) rfl ?_
    refine rq_st 43 rfl rfl ?_
    refine rq_ic 44 (nI 3) rfl (by decide) rfl ?_
    refine rq_cmpI 47 rfl rfl (fun h44 => ?_) (fun h44 => ?_)
    · dsimp only [cI] at h44
      have hz : (z < nI 3 ∨ inN g2 1001) := Or.inl h44
      refine rq_ic 56 (nI 1) rfl (by decide) rfl ?_
      refine rq_st 60 rfl rfl ?_
      exact J60 _ (by first | exact (bI_t hz).symm | exact (bI_f hz).symm)
    · dsimp only [cI] at h44
      refine rq_st 49 rfl rfl ?_
      refine rq_call [_] _ 52 rfl rfl rfl rfl rfl (Nat.le_of_ble_eq_true rfl) (cats rfl) (rcv_n rfl) (p_X6_isGap (d + 3) _ _) rfl ?_
      refine rq_ifB 55 rfl rfl (fun h52 => ?_) (fun h52 => ?_)
      · skip
        have hz : ¬ (z < nI 3 ∨ inN g2 1001) := fun q => q.elim h44 h52
        refine rq_ic 60 (nI 0) rfl (by decide) rfl ?_
        exact J60 _ (by first | exact (bI_t hz).symm | exact (bI_f hz).symm)
      · skip
        have hz : (z < nI 3 ∨ inN g2 1001) := Or.inr h52
        refine rq_ic 56 (nI 1) rfl (by decide) rfl ?_
        refine rq_st 60 rfl rfl ?_
        exact J60 _ (by first | exact (bI_t hz).symm | exact (bI_f hz).symm)
  have J19 : ∀ u : Int32, u = bI (¬ z < nI 1 ∧ ¬ nI 4 < z) → Rq (d + 4) M_X6_schedule 19 [some (.ref 1), some (.int (nI p)), some (.int z), some (.int g1), some (.int g2), some (.int g3)] [.int u] G (Qr (scQ6 G p z g1 g2 g3)) := by
    intro u hu 
    subst hu
    refine rq_call [_] _ 22 rfl rfl rfl rfl rfl (Nat.le_of_ble_eq_true rfl) (cats rfl) (rcv_n rfl) (p_require_y (d + 3) (show (¬ z < nI 1 ∧ ¬ nI 4 < z) from ⟨h.1.2.1, h.1.2.2⟩) _) rfl ?_
    refine rq_st 23 rfl rfl ?_
    refine rq_ic 24 (nI 2) rfl (by decide) rfl ?_
    refine rq_cmpI 27 rfl rfl (fun h24 => ?_) (fun h24 => ?_)
    · dsimp only [cI] at h24
      have hz : (z < nI 2 ∨ inN g1 1001) := Or.inl h24
      refine rq_ic 35 (nI 1) rfl (by decide) rfl ?_
      refine rq_st 39 rfl rfl ?_
      exact J39 _ (by first | exact (bI_t hz).symm | exact (bI_f hz).symm)
    · dsimp only [cI] at h24
      refine rq_st 28 rfl rfl ?_
      refine rq_call [_] _ 31 rfl rfl rfl rfl rfl (Nat.le_of_ble_eq_true rfl) (cats rfl) (rcv_n rfl) (p_X6_isGap (d + 3) _ _) rfl ?_
      refine rq_ifB 34 rfl rfl (fun h31 => ?_) (fun h31 => ?_)
      · skip
        have hz : ¬ (z < nI 2 ∨ inN g1 1001) := fun q => q.elim h24 h31
        refine rq_ic 39 (nI 0) rfl (by decide) rfl ?_
        exact J39 _ (by first | exact (bI_t hz).symm | exact (bI_f hz).symm)
      · skip
        have hz : (z < nI 2 ∨ inN g1 1001) := Or.inr h31
        refine rq_ic 35 (nI 1) rfl (by decide) rfl ?_
        refine rq_st 39 rfl rfl ?_
        exact J39 _ (by first | exact (bI_t hz).symm | exact (bI_f hz).symm)
  refine rq_st 1 rfl rfl ?_
  refine rq_call [_] _ 4 rfl rfl rfl rfl rfl (Nat.le_of_ble_eq_true rfl) (cats rfl) (rcv_n rfl) (p_reqVaccine_y (d + 2) h.1.1 _) rfl ?_
  refine rq_st 5 rfl rfl ?_
  refine rq_ic 6 (nI 1) rfl (by decide) rfl ?_
  refine rq_cmpI 9 rfl rfl (fun h6 => ?_) (fun h6 => ?_)
  · dsimp only [cI] at h6
    have hz : ¬ (¬ z < nI 1 ∧ ¬ nI 4 < z) := fun q => q.1 h6
    refine rq_ic 19 (nI 0) rfl (by decide) rfl ?_
    exact J19 _ (by first | exact (bI_t hz).symm | exact (bI_f hz).symm)
  · dsimp only [cI] at h6
    refine rq_st 10 rfl rfl ?_
    refine rq_ic 11 (nI 4) rfl (by decide) rfl ?_
    refine rq_cmpI 14 rfl rfl (fun h11 => ?_) (fun h11 => ?_)
    · dsimp only [cI] at h11
      have hz : ¬ (¬ z < nI 1 ∧ ¬ nI 4 < z) := fun q => q.2 h11
      refine rq_ic 19 (nI 0) rfl (by decide) rfl ?_
      exact J19 _ (by first | exact (bI_t hz).symm | exact (bI_f hz).symm)
    · dsimp only [cI] at h11
      have hz : (¬ z < nI 1 ∧ ¬ nI 4 < z) := ⟨h6, h11⟩
      refine rq_ic 15 (nI 1) rfl (by decide) rfl ?_
      refine rq_st 19 rfl rfl ?_
      exact J19 _ (by first | exact (bI_t hz).symm | exact (bI_f hz).symm)
def wup (w : Nat → Nat) (p x : Nat) : Nat → Nat := fun s => if s = p then x else w s
theorem wup_y {w : Nat → Nat} {p x : Nat} : wup w p x p = x := if_pos rfl
theorem wup_n {w : Nat → Nat} {p x s : Nat} (h : s ≠ p) : wup w p x s = w s := if_neg h
def te6 (w my wr : Nat → Nat) (sy : Nat → Nat → Nat) (ls : Nat → List Nat) (p m : Nat) (G : ma_G) (r : Option Value) (G' : ma_G) : Prop := r = some (.int (nI (ctW (w p) m))) ∧ sm (sIn (33 + 4 * p)) G G' ∧ cSt (wup w p (ctW (w p) m)) my wr sy ls G'
theorem p_X6_tear_bad (d : Nat) {G : ma_G} {s x : Int32} (h : ¬ (inN s 3 ∧ ¬ x < 0)) : Ca (d + 5) 63 [.ref 1, .int s, .int x] G (.inr 8001, G, 1, 6) := by
  refine ca_of rfl ?_
  have J : ∀ u : Int32, u = bI (¬ x < 0) → inN s 3 → Ru (d + 4) M_X6_tear 13 [some (.ref 1), some (.int s), some (.int x)] [.int u] G (.inr 8001, G, 1, 6) := by
    intro u hu hq1
    subst hu
    by_cases hq13 : (¬ x < 0)
    rotate_left
    · exact ru_callt [_] _ rfl rfl rfl rfl rfl (Nat.le_of_ble_eq_true rfl) (cats rfl) (rcv_n rfl) (p_require_n (d + 1) hq13 _) rfl rfl
    refine ru_call [_] _ 16 rfl rfl rfl rfl rfl (Nat.le_of_ble_eq_true rfl) (cats rfl) (rcv_n rfl) (p_require_y (d + 3) hq13 _) rfl ?_
    exact absurd ⟨hq1, hq13⟩ h
  refine ru_st 1 rfl rfl ?_
  by_cases hq1 : inN s 3
  rotate_left
  · exact ru_callt [_] _ rfl rfl rfl rfl rfl (Nat.le_of_ble_eq_true rfl) (cats rfl) (rcv_n rfl) (p_reqStick_n d hq1 _) rfl rfl
  refine ru_call [_] _ 4 rfl rfl rfl rfl rfl (Nat.le_of_ble_eq_true rfl) (cats rfl) (rcv_n rfl) (p_reqStick_y (d + 2) hq1 _) rfl ?_
  refine ru_st 5 rfl rfl ?_
  refine ru_ifI 8 rfl rfl (fun h5 => ?_) (fun h5 => ?_)
  · dsimp only [cI] at h5
    have hz : ¬ (¬ x < 0) := fun q => q h5
    refine ru_ic 13 (nI 0) rfl (by decide) rfl ?_
    exact J _ (by first | exact (bI_t hz).symm | exact (bI_f hz).symm) hq1
  · dsimp only [cI] at h5
    have hz : (¬ x < 0) := h5
    refine ru_ic 9 (nI 1) rfl (by decide) rfl ?_
    refine ru_st 13 rfl rfl ?_
    exact J _ (by first | exact (bI_t hz).symm | exact (bI_f hz).symm) hq1
theorem p_X6_tear (d : Nat) {G : ma_G} {A : Nat → Nat → Int32} (hsh : shp G) {w my wr : Nat → Nat} {sy : Nat → Nat → Nat} {ls : Nat → List Nat} (hS : cSt w my wr sy ls G) (hst : mSt A w my) (p : Nat) (hp : p < 3) (m : Nat) (hm : m < 2 ^ 31) : Cq (d + 5) 63 [.ref 1, .int (nI p), .int (nI m)] G (te6 w my wr sy ls p m G) := by
  refine cq_of rfl ?_
  obtain ⟨hx, -, -, -, ⟨f32, hf32, hf32b⟩⟩ := id hsh
  obtain ⟨Wk, B, E, hs, hw2, hB, hE⟩ := hS p hp
  have hst1 := hst p hp
  have hrd : rdN (w p) (my p) ≤ 96 := Nat.le_trans (rdN_le _ _) hst1.2.2.2
  have J : ∀ u : Int32, u = bI (¬ nI m < 0) → Rq (d + 4) M_X6_tear 13 [some (.ref 1), some (.int (nI p)), some (.int (nI m))] [.int u] G (Qr (te6 w my wr sy ls p m G)) := by
    intro u hu
    subst hu
    refine rq_call [_] _ 16 rfl rfl rfl rfl rfl (Nat.le_of_ble_eq_true rfl) (cats rfl) (rcv_n rfl) (p_require_y (d + 3) (show (¬ nI m < 0) from nI_pos hm) _) rfl ?_
    refine rq_st 17 rfl rfl ?_
    refine rq_getf 20 rfl hx rfl rfl ?_
    refine rq_st 21 rfl rfl ?_
    refine rq_aalN 22 rfl hf32 (by omega) (by decide) (hf32b p hp) rfl ?_
    refine rq_st 23 rfl rfl ?_
    refine rq_callq [_, _] _ 26 rfl rfl rfl rfl rfl (Nat.le_of_ble_eq_true rfl) (cats rfl) (rcv_s rfl hs.1) (p_X5_cutAt (d + 3) hs hst1.2.1 hrd m hm) rfl (fun v9 G3 hv9 => ?_)
    obtain ⟨rfl, hs3, hk3⟩ := hv9
    have hsh3 := hsh.sm hs3 (fun q => absurd q.1 (by omega)) (fun q => absurd q.1 (by omega)) (fun q => absurd q.1 (by omega)) (fun q => absurd q.1 (by omega)) (fun q => absurd q.1 (by omega))
    obtain ⟨hx3, -, -, -, ⟨f33, hf33, hf33b⟩⟩ := id hsh3
    rw [ctE_rd] at hk3
    refine rq_st 27 rfl rfl ?_
    refine rq_getf 30 rfl hx3 rfl rfl ?_
    refine rq_st 31 rfl rfl ?_
    refine rq_aalN 32 rfl hf33 (by omega) (by decide) (hf33b p hp) rfl ?_
    refine rq_call [_] _ 35 rfl rfl rfl rfl rfl (Nat.le_of_ble_eq_true rfl) (cats rfl) (rcv_s rfl hk3.1) (p_X5_wholePages (d + 3) hk3) rfl ?_
    exact rq_iret rfl rfl rfl ⟨rfl, hs3, fun s h3 => by
  by_cases e : s = p
  · subst e
    rw [wup_y]
    exact ⟨Wk, B, E, hk3, hw2, hB, hE⟩
  · rw [wup_n e]
    obtain ⟨W4, B4, E4, h4, h5⟩ := hS s h3
    exact ⟨W4, B4, E4, h4.sm hs3 (fun k hk q => by have := q.1; have := q.2; omega), h5⟩⟩
  refine rq_st 1 rfl rfl ?_
  refine rq_call [_] _ 4 rfl rfl rfl rfl rfl (Nat.le_of_ble_eq_true rfl) (cats rfl) (rcv_n rfl) (p_reqStick_y (d + 2) ⟨p, hp, rfl⟩ _) rfl ?_
  refine rq_st 5 rfl rfl ?_
  refine rq_ifI 8 rfl rfl (fun h5 => ?_) (fun h5 => ?_)
  · dsimp only [cI] at h5
    have hz : ¬ (¬ nI m < 0) := fun q => q h5
    refine rq_ic 13 (nI 0) rfl (by decide) rfl ?_
    exact J _ (by first | exact (bI_t hz).symm | exact (bI_f hz).symm)
  · dsimp only [cI] at h5
    have hz : (¬ nI m < 0) := h5
    refine rq_ic 9 (nI 1) rfl (by decide) rfl ?_
    refine rq_st 13 rfl rfl ?_
    exact J _ (by first | exact (bI_t hz).symm | exact (bI_f hz).symm)
