/-! the law, as a whole -/
set_option maxRecDepth 20000 in
set_option maxHeartbeats 1000000 in
theorem law_exit {L : Nat} {xs : Nat → Int32} {i C Sx : Nat} {t : Int32} {G : ma_G} {o : Nat → Int64} {o5 o6 o7 : Option Value} (hL : L ≤ 3072) (hi : ¬ i + 6 ≤ L) (hb : i ≤ 4000) (hI : INV L xs t G o) : Rq 9 M_L_law 23 [some (.ref 0), some (.ref 1), some (.ref 49), some (.ref 63), some (.int (nI i)), o5, o6, o7] [] G (Qk C Sx QF) := by
  refine rq_st 25 rfl rfl ?_
  refine rq_st 26 rfl rfl ?_
  refine rq_alen 27 rfl (inv_s hI) rfl ?_
  refine rq_bp 29 (nI 6) rfl (by decide) rfl ?_
  have fin : Rq 9 M_L_law 1415 [some (.ref 0), some (.ref 1), some (.ref 49), some (.ref 63), some (.int (nI i)), o5, o6, o7] [] G (Qk C Sx QF) := by
    refine rq_ic 1416 (nI 1) rfl (by decide) rfl ?_
    exact rk_iret rfl rfl rfl rfl
  by_cases h6 : 6 ≤ L
  · refine rq_subN 30 rfl h6 rfl ?_
    exact rq_cmpt rfl ((ma_cmpN (by omega) (by omega)).mpr (by show L - 6 < i; omega)) fin
  · refine rq_st 30 rfl rfl ?_
    exact rq_cmpt rfl (sub6 (by omega) (by omega)) fin
set_option maxRecDepth 20000 in
set_option maxHeartbeats 1000000 in
theorem law_body {L : Nat} {xs : Nat → Int32} {i C Sx : Nat} {t : Int32} {G : ma_G} {o : Nat → Int64} {o5 o6 o7 : Option Value} (hL : L ≤ 3072) (hi : i + 6 ≤ L) (ret : ∀ (t : Int32) (G : ma_G) (o : Nat → Int64) (o5 o6 o7 : Option Value), INV L xs t G o → Rq 9 M_L_law 1409 [some (.ref 0), some (.ref 1), some (.ref 49), some (.ref 63), some (.int (nI i)), o5, o6, o7] [] G (Qk C Sx QF)) (hI : INV L xs t G o) : Rq 9 M_L_law 23 [some (.ref 0), some (.ref 1), some (.ref 49), some (.ref 63), some (.int (nI i)), o5, o6, o7] [] G (Qk (C + 1) (Sx + 6) QF) := by
  refine rq_st 25 rfl rfl ?_
  refine rq_st 26 rfl rfl ?_
  refine rq_alen 27 rfl (inv_s hI) rfl ?_
  refine rq_bp 29 (nI 6) rfl (by decide) rfl ?_
  refine rq_subN 30 rfl (by omega) rfl ?_
  refine rq_cmpf 33 rfl rfl (by rw [← Bool.not_eq_true, ma_cmpN (by omega) (by omega)]; show ¬ L - 6 < i; omega) ?_
  refine rq_st 34 rfl rfl ?_
  refine rq_st 36 rfl rfl ?_
  refine rq_salN 37 rfl (inv_s hI) (by omega) (by omega) rfl ?_
  refine rq_bp 39 (nI 31) rfl (by decide) rfl ?_
  refine rq_and5 40 rfl rfl (fun j hj => ?_)
  rcases (show j = 0 ∨ j = 1 ∨ j = 2 ∨ j = 3 ∨ j = 4 ∨ j = 5 ∨ j = 6 ∨ j = 7 ∨ j = 8 ∨ j = 9 ∨ j = 10 ∨ j = 11 ∨ j = 12 ∨ j = 13 ∨ j = 14 ∨ j = 15 ∨ j = 16 ∨ j = 17 ∨ j = 18 ∨ 19 ≤ j by omega) with rfl | rfl | rfl | rfl | rfl | rfl | rfl | rfl | rfl | rfl | rfl | rfl | rfl | rfl | rfl | rfl | rfl | rfl | rfl | hj19
  · refine rq_st 132 rfl rfl ?_
    exact law_schedule hL hi ret hI
  · refine rq_st 216 rfl rfl ?_
    exact law_dose hL hi ret hI
  · refine rq_st 320 rfl rfl ?_
    exact law_strike hL hi ret hI
  · refine rq_st 388 rfl rfl ?_
    exact law_recall hL hi ret hI
  · refine rq_st 480 rfl rfl ?_
    exact law_same hL hi ret hI
  · refine rq_st 560 rfl rfl ?_
    exact law_write hL hi ret hI
  · refine rq_st 628 rfl rfl ?_
    exact law_tear hL hi ret hI
  · refine rq_st 696 rfl rfl ?_
    exact law_load hL hi ret hI
  · refine rq_st 764 rfl rfl ?_
    exact law_stick hL hi ret hI
  · refine rq_st 801 rfl rfl ?_
    exact law_known hL hi ret hI
  · refine rq_st 838 rfl rfl ?_
    exact law_heard hL hi ret hI
  · refine rq_st 887 rfl rfl ?_
    exact law_entry hL hi ret hI
  · refine rq_st 948 rfl rfl ?_
    exact law_counting hL hi ret hI
  · refine rq_st 1028 rfl rfl ?_
    exact law_protectedDay hL hi ret hI
  · refine rq_st 1108 rfl rfl ?_
    exact law_due hL hi ret hI
  · refine rq_st 1188 rfl rfl ?_
    exact law_coverage hL hi ret hI
  · refine rq_st 1268 rfl rfl ?_
    exact law_lotList hL hi ret hI
  · refine rq_st 1317 rfl rfl ?_
    exact law_whoIs hL hi ret hI
  · refine rq_st 1354 rfl rfl ?_
    exact law_sum hL hi ret hI
  · refine rq_st 1409 rfl (sw_def (Or.inr (by rw [nI_toInt (by omega)]; omega))) ?_
    exact rk_mono (Nat.le_succ C) (Nat.le_add_right Sx 6) (ret _ _ _ _ _ _ hI)
set_option maxRecDepth 20000 in
set_option maxHeartbeats 1000000 in
theorem law_loop {L : Nat} {xs : Nat → Int32} (hL : L ≤ 3072) : ∀ (m i : Nat) (t : Int32) (G : ma_G) (o : Nat → Int64) (o5 o6 o7 : Option Value), L ≤ i + 6 * m → i ≤ L + 5 → INV L xs t G o → Rq 9 M_L_law 23 [some (.ref 0), some (.ref 1), some (.ref 49), some (.ref 63), some (.int (nI i)), o5, o6, o7] [] G (Qk m (6 * m) QF) := by
  intro m
  induction m with
  | zero =>
    intro i t G o o5 o6 o7 hm hb hI
    exact law_exit hL (by omega) (by omega) hI
  | succ m ih =>
    intro i t G o o5 o6 o7 hm hb hI
    by_cases hi : i + 6 ≤ L
    · refine law_body (C := m) (Sx := 6 * m) hL hi (fun t2 G2 o2 p5 p6 p7 hI2 => ?_) hI
      refine rq_incN 1412 (i + 6) rfl rfl (by rw [show Int32.ofInt 6 = nI 6 from by decide]; exact nI_add i 6) rfl rfl ?_
      refine rq_st 23 rfl rfl ?_
      exact ih (i + 6) t2 G2 o2 p5 p6 p7 (by omega) (by omega) hI2
    · exact law_exit hL hi (by omega) hI
set_option maxRecDepth 20000 in
set_option maxHeartbeats 1000000 in
theorem law_start {L : Nat} {xs : Nat → Int32} (hL : L ≤ 3072) : Rq 9 M_L_law 0 (ma_ent [.ref 0] 8) [] [.inl (9, L, .inl xs)] (Qk 575 5325 QF) := by
  refine rk_obj 3 574 5319 1 rfl (by decide) rfl rfl (by omega) (by show _ + 6 ≤ _; omega) (fun Ga hoa hla hga => ?_)
  refine rq_st 4 rfl rfl ?_
  refine rk_call 527 3990 [_] _ 7 rfl rfl rfl rfl rfl (Nat.le_of_ble_eq_true rfl) (cats rfl) (rcv_s rfl hoa) (p_X6_init 7 hoa hla) rfl (by omega) (by omega) (fun v9 Gb hv9 => ?_)
  obtain ⟨rfl, hlb, hgb, hcb⟩ := hv9
  refine rq_st 8 rfl rfl ?_
  refine rk_obj 11 526 3973 49 rfl (by decide) hlb rfl (by omega) (by show _ + 17 ≤ _; omega) (fun Gc hoc hlc hgc => ?_)
  refine rq_st 12 rfl rfl ?_
  refine rk_call 513 3073 [_] _ 15 rfl rfl rfl rfl rfl (Nat.le_of_ble_eq_true rfl) (cats rfl) (rcv_s rfl hoc) (p_X7_init 8 hoc hlc) rfl (by omega) (by omega) (fun v8 Gd hv8 => ?_)
  obtain ⟨rfl, hld, hgd, g, hg, hmd⟩ := hv8
  refine rq_st 16 rfl rfl ?_
  refine rq_ic 17 (nI 1) rfl (by decide) rfl ?_
  refine rk_newL 19 512 3072 63 1 rfl (by decide) hld rfl (by omega) (by omega) ?_
  refine rq_st 20 rfl rfl ?_
  refine rq_ic 21 (nI 0) rfl (by decide) rfl ?_
  refine rq_st 23 rfl rfl ?_
  have hA : gm (fun x => x = 49) Gb Gd := (gmF hgc).tr hgd
  have hB : gm (fun _ => False) Gd (Gd ++ [.inl (1, 1, .inr (.inl (fun _ => 0)))]) := gm.rf.app
  have hcd := (hcb.gm hA (fun a _ h2 q => by omega)).gm hB (fun _ _ _ q => q)
  have hmd2 := hmd.gm hB (fun _ _ _ q => q)
  have h0 : Gd[0]? = some (.inl (9, L, .inl xs)) := ((hA.2 0 (by omega) (fun q => absurd (show 0 = 49 from q) (by decide))).trans (hgb.2 0 (by omega) (fun q => absurd (show 0 = 1 from q) (by decide)))).trans (hga.2 0 (Nat.zero_lt_one) id)
  have he : envO L xs (Gd ++ [.inl (1, 1, .inr (.inl (fun _ => 0)))]) (fun _ => 0) := ⟨by rw [List.getElem?_append_left (by omega)]; exact h0, new_longs hld⟩
  exact law_loop hL 512 0 0 _ _ none none none (by omega) (by omega) (inv_start hcd hg hmd2 he)
theorem law_pure : lw_pure := by
  intro L xs hL
  obtain ⟨r, ⟨n, hr⟩, v, G', c, s, rfl, h1, h2, h3⟩ := law_start (xs := xs) hL
  obtain rfl : v = some (.int (nI 1)) := h3
  exact ⟨n, G', c, s, by omega, by omega, hr⟩
theorem i_vc : Claimed_1_1 ∧ Claimed_1_2 := i_vc_open law_pure
