/-! the class: an entry is noted -/
def nup (n : Nat → Nat) (c : Nat) : Nat → Nat := fun x => if x = c then n c + 1 else n x
theorem nup_y {n : Nat → Nat} {c : Nat} : nup n c c = n c + 1 := if_pos rfl
theorem nup_n {n : Nat → Nat} {c x : Nat} (h : x ≠ c) : nup n c x = n x := if_neg h
theorem kup_y {q : Nat → Nat → Nat} {c e : Nat} : kup q c e c e = q c e + 1 := if_pos ⟨rfl, rfl⟩
theorem kup_n {q : Nat → Nat → Nat} {c e x y : Nat} (h : ¬ (x = c ∧ y = e)) : kup q c e x y = q x y := if_neg h
def eIn (c : Nat) : Nat → Prop := fun x => 8 + 6 * c ≤ x ∧ x < 14 + 6 * c
theorem ntA_3 {A : Nat → Nat → Int32} {c nc : Nat} {k a0 a1 a2 a3 : Int32} : ntA A c nc k a0 a1 a2 a3 3 = upd (A 3) (24 * c + nc) k := rfl
theorem ntA_4 {A : Nat → Nat → Int32} {c nc : Nat} {k a0 a1 a2 a3 : Int32} : ntA A c nc k a0 a1 a2 a3 4 = upd (upd (upd (upd (A 4) (4 * (24 * c + nc)) a0) (4 * (24 * c + nc) + 1) a1) (4 * (24 * c + nc) + 2) a2) (4 * (24 * c + nc) + 3) a3 := rfl
theorem ntA_4n {A : Nat → Nat → Int32} {c nc : Nat} {k a0 a1 a2 a3 : Int32} {x : Nat} (h : x < 4 * (24 * c + nc) ∨ 4 * (24 * c + nc) + 3 < x) : ntA A c nc k a0 a1 a2 a3 4 x = A 4 x := by
  rw [ntA_4, pk_un (by omega), pk_un (by omega), pk_un (by omega), pk_un (by omega)]
theorem ntA_4y {A : Nat → Nat → Int32} {c nc : Nat} {k a0 a1 a2 a3 : Int32} : ntA A c nc k a0 a1 a2 a3 4 (4 * (24 * c + nc)) = a0 ∧ ntA A c nc k a0 a1 a2 a3 4 (4 * (24 * c + nc) + 1) = a1 ∧ ntA A c nc k a0 a1 a2 a3 4 (4 * (24 * c + nc) + 2) = a2 ∧ ntA A c nc k a0 a1 a2 a3 4 (4 * (24 * c + nc) + 3) = a3 := by
  rw [ntA_4]
  refine ⟨?_, ?_, ?_, ?_⟩
  · rw [pk_un (by omega), pk_un (by omega), pk_un (by omega), pk_us]
  · rw [pk_un (by omega), pk_un (by omega), pk_us]
  · rw [pk_un (by omega), pk_us]
  · rw [pk_us]
theorem mKn_note {A : Nat → Nat → Int32} {n : Nat → Nat} {kn : Nat → Nat → Nat} {c : Nat} {k a0 a1 a2 a3 : Int32} (hk : mKn A n kn) (hcc : kn c c = n c) (hc : c < 4) (hn : n c < 24) : mKn (ntA A c (n c) k a0 a1 a2 a3) (nup n c) (kup kn c c) := by
  refine ⟨fun x hx => ?_, fun x y hx hy => ?_⟩
  · show upd (A 2) c (nI (n c + 1)) x = _ ∧ _
    by_cases e : x = c
    · rw [e, pk_us, nup_y]; exact ⟨rfl, by omega⟩
    · rw [pk_un e, nup_n e]; exact hk.1 x hx
  · show upd (A 5) (5 * c) (nI (n c + 1)) (4 * x + y) = _ ∧ _
    have h0 := hk.2 x y hx hy
    by_cases e : x = c ∧ y = c
    · obtain ⟨rfl, rfl⟩ := e
      rw [kup_y, nup_y, hcc, show 4 * y + y = 5 * y by omega, pk_us]
      exact ⟨rfl, Nat.le_refl _⟩
    · rw [kup_n e, pk_un (by omega)]
      refine ⟨h0.1, ?_⟩
      by_cases e2 : y = c
      · rw [e2, nup_y, ← e2]; omega
      · rw [nup_n e2]; exact h0.2
theorem bkA_note {A : Nat → Nat → Int32} {c n : Nat} {K N : Nat → Int32} {k a0 a1 a2 a3 : Int32} (hA : bkA A c n K N) : bkA (ntA A c n k a0 a1 a2 a3) c (n + 1) (upd K n k) (upd (upd (upd (upd N (n * 4) a0) (n * 4 + 1) a1) (n * 4 + 2) a2) (n * 4 + 3) a3) := by
  intro j hj
  by_cases e : j = n
  · subst e
    refine ⟨by rw [ntA_3, pk_us, pk_us], fun w hw => ?_⟩
    have h4 := ntA_4y (A := A) (c := c) (nc := j) (k := k) (a0 := a0) (a1 := a1) (a2 := a2) (a3 := a3)
    rcases (show w = 0 ∨ w = 1 ∨ w = 2 ∨ w = 3 by omega) with rfl | rfl | rfl | rfl
    · show upd _ _ _ (4 * j) = ntA A c j k a0 a1 a2 a3 4 (4 * (24 * c + j))
      rw [h4.1, pk_un (by omega), pk_un (by omega), pk_un (by omega), show 4 * j = j * 4 by omega, pk_us]
    · rw [h4.2.1, pk_un (by omega), pk_un (by omega), show 4 * j + 1 = j * 4 + 1 by omega, pk_us]
    · rw [h4.2.2.1, pk_un (by omega), show 4 * j + 2 = j * 4 + 2 by omega, pk_us]
    · rw [h4.2.2.2, show 4 * j + 3 = j * 4 + 3 by omega, pk_us]
  · have h0 := hA j (by omega)
    refine ⟨by rw [ntA_3, pk_un (by omega), pk_un (by omega)]; exact h0.1, fun w hw => ?_⟩
    rw [ntA_4n (by omega), pk_un (by omega), pk_un (by omega), pk_un (by omega), pk_un (by omega)]
    exact h0.2 w hw
theorem bkA_noteO {A : Nat → Nat → Int32} {c n x m : Nat} {K N : Nat → Int32} {k a0 a1 a2 a3 : Int32} (hx : x ≠ c) (hn : n < 24) (hm : m ≤ 24) (hA : bkA A x m K N) : bkA (ntA A c n k a0 a1 a2 a3) x m K N := by
  intro j hj
  have h0 := hA j hj
  refine ⟨by rw [ntA_3, pk_un (by omega)]; exact h0.1, fun w hw => ?_⟩
  rw [ntA_4n (by omega)]
  exact h0.2 w hw
theorem cRd_note {A : Nat → Nat → Int32} {n : Nat → Nat} {kn : Nat → Nat → Nat} {hr : Nat → Nat → Nat → Nat} {G G' : ma_G} {c : Nat} {k a0 a1 a2 a3 : Int32} {K N Kn Hd : Nat → Int32} (hR : cRd A n kn hr G) (hk : mKn A n kn) (hc : c < 4) (hn : n c < 24) (hcc : kn c c = n c) (hs : sm (eIn c) G G') (hA : bkA A c (n c) K N)
    (hb : bk G' (8 + 6 * c) (upd K (n c) k) (upd (upd (upd (upd N (n c * 4) a0) (n c * 4 + 1) a1) (n c * 4 + 2) a2) (n c * 4 + 3) a3) (n c + 1)) (hK : clK c kn Kn) (hH : clH c hr Hd) (hl : cl G' (11 + 6 * c) c (upd Kn c (nI (kn c c + 1))) Hd) : cRd (ntA A c (n c) k a0 a1 a2 a3) (nup n c) (kup kn c c) hr G' := by
  refine ⟨hR.1.sm hs (fun q => absurd q.1 (by omega)) (fun q => absurd q.1 (by omega)) (fun q => absurd q.1 (by omega)) (fun q => absurd q.1 (by omega)) (fun q => absurd q.2 (by omega)), fun x hx => ?_, fun x hx => ?_⟩
  · by_cases e : x = c
    · subst e
      rw [nup_y]
      exact ⟨_, _, hb, bkA_note hA⟩
    · obtain ⟨K2, N2, hb2, hA2⟩ := hR.2.1 x hx
      rw [nup_n e]
      exact ⟨K2, N2, hb2.sm hs (fun q => by have := q.1; have := q.2; omega) (fun q => by have := q.1; have := q.2; omega) (fun q => by have := q.1; have := q.2; omega), bkA_noteO e hn (hk.1 x hx).2 hA2⟩
  · by_cases e : x = c
    · subst e
      refine ⟨_, _, hl, fun e he => ?_, hH⟩
      by_cases q : e = x
      · subst q; rw [pk_us, kup_y]; exact ⟨rfl, by omega⟩
      · rw [pk_un q, kup_n (fun p => q p.2)]; exact hK e he
    · obtain ⟨K2, N2, hl2, hK2, hH2⟩ := hR.2.2 x hx
      refine ⟨K2, N2, hl2.sm hs (fun q => by have := q.1; have := q.2; omega) (fun q => by have := q.1; have := q.2; omega) (fun q => by have := q.1; have := q.2; omega), fun y hy => ?_, hH2⟩
      rw [kup_n (fun p => e p.1)]
      exact hK2 y hy
def ad6 (A : Nat → Nat → Int32) (n : Nat → Nat) (kn : Nat → Nat → Nat) (hr : Nat → Nat → Nat → Nat) (G : ma_G) (c : Nat) (k a0 a1 a2 a3 : Int32) (r : Option Value) (G' : ma_G) : Prop := r = some (.int (nI (n c))) ∧ sm (eIn c) G G' ∧ cRd (ntA A c (n c) k a0 a1 a2 a3) (nup n c) (kup kn c c) hr G'
theorem p_X6_append (d : Nat) {G : ma_G} {A : Nat → Nat → Int32} {n : Nat → Nat} {kn : Nat → Nat → Nat} {hr : Nat → Nat → Nat → Nat} (hR : cRd A n kn hr G) (hk : mKn A n kn) (c : Nat) (hc : c < 4) (hcc : kn c c = n c) (hn : n c < 24) (k a0 a1 a2 a3 : Int32) : Cq (d + 3) 44 [.ref 1, .int (nI c), .int k, .int a0, .int a1, .int a2, .int a3] G (ad6 A n kn hr G c k a0 a1 a2 a3) := by
  refine cq_of rfl ?_
  obtain ⟨⟨hx, ⟨f2, hf2, hf2b⟩, ⟨f6, hf6, hf6b⟩, ⟨f7, hf7, hf7b⟩, ⟨f32, hf32, hf32b⟩⟩, hbk, hcl⟩ := id hR
  obtain ⟨Kn, Hd, hl, hK, hH⟩ := hcl c hc
  obtain ⟨K, N, hb, hA⟩ := hbk c hc
  refine rq_st 1 rfl rfl ?_
  refine rq_getf 4 rfl hx rfl rfl ?_
  refine rq_st 5 rfl rfl ?_
  refine rq_aalN 6 rfl hf6 (by omega) (by decide) (hf6b c hc) rfl ?_
  refine rq_call [_] _ 9 rfl rfl rfl rfl rfl (Nat.le_of_ble_eq_true rfl) (cats rfl) (rcv_s rfl hb.1) (p_X0_isFull (d + 1) hb (by omega)) rfl ?_
  refine rq_ift rfl ((bI_if _).1.mpr (by omega)) ?_
  refine rq_st 23 rfl rfl ?_
  refine rq_getf 26 rfl hx rfl rfl ?_
  refine rq_st 27 rfl rfl ?_
  refine rq_aalN 28 rfl hf6 (by omega) (by decide) (hf6b c hc) rfl ?_
  refine rq_st 29 rfl rfl ?_
  refine rq_st 30 rfl rfl ?_
  refine rq_st 32 rfl rfl ?_
  refine rq_st 34 rfl rfl ?_
  refine rq_st 36 rfl rfl ?_
  refine rq_callq [_, _, _, _, _, _] _ 39 rfl rfl rfl rfl rfl (Nat.le_of_ble_eq_true rfl) (cats rfl) (rcv_s rfl hb.1) (p_X0_append d hb hn k a0 a1 a2 a3) rfl (fun v9 G3 hv9 => ?_)
  obtain ⟨rfl, hs3, hb3⟩ := hv9
  have hsE : sm (eIn c) G G3 := hs3.mono (fun a h => ⟨by have := h.1; omega, by have := h.2; omega⟩)
  have hsh3 := hR.1.sm hs3 (fun q => absurd q.1 (by omega)) (fun q => absurd q.1 (by omega)) (fun q => absurd q.1 (by omega)) (fun q => absurd q.1 (by omega)) (fun q => absurd q.2 (by omega))
  have hl3 := hl.sm hs3 (fun q => absurd q.2 (by omega)) (fun q => absurd q.2 (by omega)) (fun q => absurd q.2 (by omega))
  obtain ⟨hx3, -, -, ⟨f73, hf73, hf73b⟩, -⟩ := id hsh3
  refine rq_st 41 rfl rfl ?_
  refine rq_st 42 rfl rfl ?_
  refine rq_getf 45 rfl hx3 rfl rfl ?_
  refine rq_st 46 rfl rfl ?_
  refine rq_aalN 47 rfl hf73 (by omega) (by decide) (hf73b c hc) rfl ?_
  refine rq_st 48 rfl rfl ?_
  refine rq_callq [_, _] _ 51 rfl rfl rfl rfl rfl (Nat.le_of_ble_eq_true rfl) (cats rfl) (rcv_s rfl hl3.1) (p_X1_learn d hl3 hK c hc) rfl (fun v8 G4 hv8 => ?_)
  obtain ⟨rfl, hs4, hl4⟩ := hv8
  have hsE4 : sm (eIn c) G G4 := hsE.tr (hs4.mono (fun a h => by subst h; exact ⟨by omega, by omega⟩))
  have hb4 := hb3.sm hs4 (fun q => absurd q (by omega)) (fun q => absurd q (by omega)) (fun q => absurd q (by omega))
  refine rq_st 53 rfl rfl ?_
  exact rq_iret rfl rfl rfl ⟨rfl, hsE4, cRd_note hR hk hc hn hcc hsE4 hA hb4 hK hH hl4⟩
theorem p_X6_append_full (d : Nat) {G : ma_G} {A : Nat → Nat → Int32} {n : Nat → Nat} {kn : Nat → Nat → Nat} {hr : Nat → Nat → Nat → Nat} (hR : cRd A n kn hr G) (hk : mKn A n kn) (c : Nat) (hc : c < 4) (hn : n c = 24) (k a0 a1 a2 a3 : Int32) : Ca (d + 3) 44 [.ref 1, .int (nI c), .int k, .int a0, .int a1, .int a2, .int a3] G (.inr 8002, G, 1, 6) := by
  refine ca_of rfl ?_
  obtain ⟨⟨hx, ⟨f2, hf2, hf2b⟩, ⟨f6, hf6, hf6b⟩, ⟨f7, hf7, hf7b⟩, ⟨f32, hf32, hf32b⟩⟩, hbk, hcl⟩ := id hR
  obtain ⟨Kn, Hd, hl, hK, hH⟩ := hcl c hc
  obtain ⟨K, N, hb, hA⟩ := hbk c hc
  refine ru_st 1 rfl rfl ?_
  refine ru_getf 4 rfl hx rfl rfl ?_
  refine ru_st 5 rfl rfl ?_
  refine ru_aalN 6 rfl hf6 (by omega) (by decide) (hf6b c hc) rfl ?_
  refine ru_call [_] _ 9 rfl rfl rfl rfl rfl (Nat.le_of_ble_eq_true rfl) (cats rfl) (rcv_s rfl hb.1) (p_X0_isFull (d + 1) hb (by omega)) rfl ?_
  refine ru_iff 12 rfl rfl (by rw [← Bool.not_eq_true, (bI_if _).1]; exact fun q => q (hn)) ?_
  exact ru_thr rfl (by decide) (by decide) (by omega) rfl (Nat.le_of_ble_eq_true rfl)
theorem p_X6_dose_bad (d : Nat) {G : ma_G} {c p v lot day : Int32} (h : ¬ okDo c p v lot day) : Ca (d + 5) 40 [.ref 1, .int c, .int p, .int v, .int lot, .int day] G (.inr 8001, G, 1, 6) := by
  refine ca_of rfl ?_
  have J : ∀ u : Int32, u = bI (inN lot 10 ∧ inN day 40001) → inN c 4 → inN p 12 → inN v 3 → Ru (d + 4) M_X6_dose 33 [some (.ref 1), some (.int c), some (.int p), some (.int v), some (.int lot), some (.int day)] [.int u] G (.inr 8001, G, 1, 6) := by
    intro u hu hq1 hq5 hq9
    subst hu
    by_cases hq33 : (inN lot 10 ∧ inN day 40001)
    rotate_left
    · exact ru_callt [_] _ rfl rfl rfl rfl rfl (Nat.le_of_ble_eq_true rfl) (cats rfl) (rcv_n rfl) (p_require_n (d + 1) hq33 _) rfl rfl
    refine ru_call [_] _ 36 rfl rfl rfl rfl rfl (Nat.le_of_ble_eq_true rfl) (cats rfl) (rcv_n rfl) (p_require_y (d + 3) hq33 _) rfl ?_
    exact absurd ⟨hq1, hq5, hq9, hq33.1, hq33.2⟩ h
  refine ru_st 1 rfl rfl ?_
  by_cases hq1 : inN c 4
  rotate_left
  · exact ru_callt [_] _ rfl rfl rfl rfl rfl (Nat.le_of_ble_eq_true rfl) (cats rfl) (rcv_n rfl) (p_reqClinic_n d hq1 _) rfl rfl
  refine ru_call [_] _ 4 rfl rfl rfl rfl rfl (Nat.le_of_ble_eq_true rfl) (cats rfl) (rcv_n rfl) (p_reqClinic_y (d + 2) hq1 _) rfl ?_
  refine ru_st 5 rfl rfl ?_
  by_cases hq5 : inN p 12
  rotate_left
  · exact ru_callt [_] _ rfl rfl rfl rfl rfl (Nat.le_of_ble_eq_true rfl) (cats rfl) (rcv_n rfl) (p_reqPerson_n d hq5 _) rfl rfl
  refine ru_call [_] _ 8 rfl rfl rfl rfl rfl (Nat.le_of_ble_eq_true rfl) (cats rfl) (rcv_n rfl) (p_reqPerson_y (d + 2) hq5 _) rfl ?_
  refine ru_st 9 rfl rfl ?_
  by_cases hq9 : inN v 3
  rotate_left
  · exact ru_callt [_] _ rfl rfl rfl rfl rfl (Nat.le_of_ble_eq_true rfl) (cats rfl) (rcv_n rfl) (p_reqVaccine_n d hq9 _) rfl rfl
  refine ru_call [_] _ 12 rfl rfl rfl rfl rfl (Nat.le_of_ble_eq_true rfl) (cats rfl) (rcv_n rfl) (p_reqVaccine_y (d + 2) hq9 _) rfl ?_
  refine ru_st 14 rfl rfl ?_
  refine ru_call [_] _ 17 rfl rfl rfl rfl rfl (Nat.le_of_ble_eq_true rfl) (cats rfl) (rcv_n rfl) (p_X6_isLot (d + 3) _ _) rfl ?_
  refine ru_ifB 20 rfl rfl (fun h17 => ?_) (fun h17 => ?_)
  · skip
    have hz : ¬ (inN lot 10 ∧ inN day 40001) := fun q => h17 q.1
    refine ru_ic 33 (nI 0) rfl (by decide) rfl ?_
    exact J _ (by first | exact (bI_t hz).symm | exact (bI_f hz).symm) hq1 hq5 hq9
  · skip
    refine ru_st 22 rfl rfl ?_
    refine ru_call [_] _ 25 rfl rfl rfl rfl rfl (Nat.le_of_ble_eq_true rfl) (cats rfl) (rcv_n rfl) (p_X6_isDay (d + 3) _ _) rfl ?_
    refine ru_ifB 28 rfl rfl (fun h25 => ?_) (fun h25 => ?_)
    · skip
      have hz : ¬ (inN lot 10 ∧ inN day 40001) := fun q => h25 q.2
      refine ru_ic 33 (nI 0) rfl (by decide) rfl ?_
      exact J _ (by first | exact (bI_t hz).symm | exact (bI_f hz).symm) hq1 hq5 hq9
    · skip
      have hz : inN lot 10 ∧ inN day 40001 := ⟨h17, h25⟩
      refine ru_ic 29 (nI 1) rfl (by decide) rfl ?_
      refine ru_st 33 rfl rfl ?_
      exact J _ (by first | exact (bI_t hz).symm | exact (bI_f hz).symm) hq1 hq5 hq9
theorem p_X6_dose (d : Nat) {G : ma_G} {A : Nat → Nat → Int32} {n : Nat → Nat} {kn : Nat → Nat → Nat} {hr : Nat → Nat → Nat → Nat} (hR : cRd A n kn hr G) (hk : mKn A n kn) (c : Nat) (hc : c < 4) (hcc : kn c c = n c) (hn : n c < 24) {p v lot day : Int32} (h : okDo (nI c) p v lot day) : Cq (d + 5) 40 [.ref 1, .int (nI c), .int p, .int v, .int lot, .int day] G (ad6 A n kn hr G c (nI 1) p v lot day) := by
  refine cq_of rfl ?_
  have J : ∀ u : Int32, u = bI (inN lot 10 ∧ inN day 40001) → Rq (d + 4) M_X6_dose 33 [some (.ref 1), some (.int (nI c)), some (.int p), some (.int v), some (.int lot), some (.int day)] [.int u] G (Qr (ad6 A n kn hr G c (nI 1) p v lot day)) := by
    intro u hu
    subst hu
    refine rq_call [_] _ 36 rfl rfl rfl rfl rfl (Nat.le_of_ble_eq_true rfl) (cats rfl) (rcv_n rfl) (p_require_y (d + 3) (show (inN lot 10 ∧ inN day 40001) from ⟨h.2.2.2.1, h.2.2.2.2⟩) _) rfl ?_
    refine rq_st 37 rfl rfl ?_
    refine rq_st 38 rfl rfl ?_
    refine rq_ic 39 (nI 1) rfl (by decide) rfl ?_
    refine rq_st 40 rfl rfl ?_
    refine rq_st 41 rfl rfl ?_
    refine rq_st 43 rfl rfl ?_
    refine rq_st 45 rfl rfl ?_
    refine rq_callq [_, _, _, _, _, _, _] _ 48 rfl rfl rfl rfl rfl (Nat.le_of_ble_eq_true rfl) (cats rfl) (rcv_s rfl hR.1.1) (p_X6_append (d + 1) hR hk c hc hcc hn _ _ _ _ _) rfl (fun v9 G3 hv9 => ?_)
    obtain ⟨rfl, hv9⟩ := hv9
    exact rq_iret rfl rfl rfl ⟨rfl, hv9⟩
  refine rq_st 1 rfl rfl ?_
  refine rq_call [_] _ 4 rfl rfl rfl rfl rfl (Nat.le_of_ble_eq_true rfl) (cats rfl) (rcv_n rfl) (p_reqClinic_y (d + 2) h.1 _) rfl ?_
  refine rq_st 5 rfl rfl ?_
  refine rq_call [_] _ 8 rfl rfl rfl rfl rfl (Nat.le_of_ble_eq_true rfl) (cats rfl) (rcv_n rfl) (p_reqPerson_y (d + 2) h.2.1 _) rfl ?_
  refine rq_st 9 rfl rfl ?_
  refine rq_call [_] _ 12 rfl rfl rfl rfl rfl (Nat.le_of_ble_eq_true rfl) (cats rfl) (rcv_n rfl) (p_reqVaccine_y (d + 2) h.2.2.1 _) rfl ?_
  refine rq_st 14 rfl rfl ?_
  refine rq_call [_] _ 17 rfl rfl rfl rfl rfl (Nat.le_of_ble_eq_true rfl) (cats rfl) (rcv_n rfl) (p_X6_isLot (d + 3) _ _) rfl ?_
  refine rq_ifB 20 rfl rfl (fun h17 => ?_) (fun h17 => ?_)
  · skip
    have hz : ¬ (inN lot 10 ∧ inN day 40001) := fun q => h17 q.1
    refine rq_ic 33 (nI 0) rfl (by decide) rfl ?_
    exact J _ (by first | exact (bI_t hz).symm | exact (bI_f hz).symm)
  · skip
    refine rq_st 22 rfl rfl ?_
    refine rq_call [_] _ 25 rfl rfl rfl rfl rfl (Nat.le_of_ble_eq_true rfl) (cats rfl) (rcv_n rfl) (p_X6_isDay (d + 3) _ _) rfl ?_
    refine rq_ifB 28 rfl rfl (fun h25 => ?_) (fun h25 => ?_)
    · skip
      have hz : ¬ (inN lot 10 ∧ inN day 40001) := fun q => h25 q.2
      refine rq_ic 33 (nI 0) rfl (by decide) rfl ?_
      exact J _ (by first | exact (bI_t hz).symm | exact (bI_f hz).symm)
    · skip
      have hz : inN lot 10 ∧ inN day 40001 := ⟨h17, h25⟩
      refine rq_ic 29 (nI 1) rfl (by decide) rfl ?_
      refine rq_st 33 rfl rfl ?_
      exact J _ (by first | exact (bI_t hz).symm | exact (bI_f hz).symm)
theorem p_X6_dose_full (d : Nat) {G : ma_G} {A : Nat → Nat → Int32} {n : Nat → Nat} {kn : Nat → Nat → Nat} {hr : Nat → Nat → Nat → Nat} (hR : cRd A n kn hr G) (hk : mKn A n kn) (c : Nat) (hc : c < 4) (hn : n c = 24) {p v lot day : Int32} (h : okDo (nI c) p v lot day) : Ca (d + 5) 40 [.ref 1, .int (nI c), .int p, .int v, .int lot, .int day] G (.inr 8002, G, 1, 6) := by
  refine ca_of rfl ?_
  have J : ∀ u : Int32, u = bI (inN lot 10 ∧ inN day 40001) → Ru (d + 4) M_X6_dose 33 [some (.ref 1), some (.int (nI c)), some (.int p), some (.int v), some (.int lot), some (.int day)] [.int u] G (.inr 8002, G, 1, 6) := by
    intro u hu
    subst hu
    refine ru_call [_] _ 36 rfl rfl rfl rfl rfl (Nat.le_of_ble_eq_true rfl) (cats rfl) (rcv_n rfl) (p_require_y (d + 3) (show (inN lot 10 ∧ inN day 40001) from ⟨h.2.2.2.1, h.2.2.2.2⟩) _) rfl ?_
    refine ru_st 37 rfl rfl ?_
    refine ru_st 38 rfl rfl ?_
    refine ru_ic 39 (nI 1) rfl (by decide) rfl ?_
    refine ru_st 40 rfl rfl ?_
    refine ru_st 41 rfl rfl ?_
    refine ru_st 43 rfl rfl ?_
    refine ru_st 45 rfl rfl ?_
    exact ru_callt [_, _, _, _, _, _, _] _ rfl rfl rfl rfl rfl (Nat.le_of_ble_eq_true rfl) (cats rfl) (rcv_s rfl hR.1.1) (p_X6_append_full (d + 1) hR hk c hc hn _ _ _ _ _) rfl rfl
  refine ru_st 1 rfl rfl ?_
  refine ru_call [_] _ 4 rfl rfl rfl rfl rfl (Nat.le_of_ble_eq_true rfl) (cats rfl) (rcv_n rfl) (p_reqClinic_y (d + 2) h.1 _) rfl ?_
  refine ru_st 5 rfl rfl ?_
  refine ru_call [_] _ 8 rfl rfl rfl rfl rfl (Nat.le_of_ble_eq_true rfl) (cats rfl) (rcv_n rfl) (p_reqPerson_y (d + 2) h.2.1 _) rfl ?_
  refine ru_st 9 rfl rfl ?_
  refine ru_call [_] _ 12 rfl rfl rfl rfl rfl (Nat.le_of_ble_eq_true rfl) (cats rfl) (rcv_n rfl) (p_reqVaccine_y (d + 2) h.2.2.1 _) rfl ?_
  refine ru_st 14 rfl rfl ?_
  refine ru_call [_] _ 17 rfl rfl rfl rfl rfl (Nat.le_of_ble_eq_true rfl) (cats rfl) (rcv_n rfl) (p_X6_isLot (d + 3) _ _) rfl ?_
  refine ru_ifB 20 rfl rfl (fun h17 => ?_) (fun h17 => ?_)
  · skip
    have hz : ¬ (inN lot 10 ∧ inN day 40001) := fun q => h17 q.1
    refine ru_ic 33 (nI 0) rfl (by decide) rfl ?_
    exact J _ (by first | exact (bI_t hz).symm | exact (bI_f hz).symm)
  · skip
    refine ru_st 22 rfl rfl ?_
    refine ru_call [_] _ 25 rfl rfl rfl rfl rfl (Nat.le_of_ble_eq_true rfl) (cats rfl) (rcv_n rfl) (p_X6_isDay (d + 3) _ _) rfl ?_
    refine ru_ifB 28 rfl rfl (fun h25 => ?_) (fun h25 => ?_)
    · skip
      have hz : ¬ (inN lot 10 ∧ inN day 40001) := fun q => h25 q.2
      refine ru_ic 33 (nI 0) rfl (by decide) rfl ?_
      exact J _ (by first | exact (bI_t hz).symm | exact (bI_f hz).symm)
    · skip
      have hz : inN lot 10 ∧ inN day 40001 := ⟨h17, h25⟩
      refine ru_ic 29 (nI 1) rfl (by decide) rfl ?_
      refine ru_st 33 rfl rfl ?_
      exact J _ (by first | exact (bI_t hz).symm | exact (bI_f hz).symm)
theorem p_X6_recall_bad (d : Nat) {G : ma_G} {c lot fr to : Int32} (h : ¬ okRe c lot fr to) : Ca (d + 5) 51 [.ref 1, .int c, .int lot, .int fr, .int to] G (.inr 8001, G, 1, 6) := by
  refine ca_of rfl ?_
  have J : ∀ u : Int32, u = bI (inN lot 10 ∧ inN fr 40001 ∧ inN to 40001 ∧ fr ≤ to) → inN c 4 → Ru (d + 4) M_X6_recall 37 [some (.ref 1), some (.int c), some (.int lot), some (.int fr), some (.int to)] [.int u] G (.inr 8001, G, 1, 6) := by
    intro u hu hq1
    subst hu
    by_cases hq37 : (inN lot 10 ∧ inN fr 40001 ∧ inN to 40001 ∧ fr ≤ to)
    rotate_left
    · exact ru_callt [_] _ rfl rfl rfl rfl rfl (Nat.le_of_ble_eq_true rfl) (cats rfl) (rcv_n rfl) (p_require_n (d + 1) hq37 _) rfl rfl
    refine ru_call [_] _ 40 rfl rfl rfl rfl rfl (Nat.le_of_ble_eq_true rfl) (cats rfl) (rcv_n rfl) (p_require_y (d + 3) hq37 _) rfl ?_
    exact absurd ⟨hq1, hq37⟩ h
  refine ru_st 1 rfl rfl ?_
  by_cases hq1 : inN c 4
  rotate_left
  · exact ru_callt [_] _ rfl rfl rfl rfl rfl (Nat.le_of_ble_eq_true rfl) (cats rfl) (rcv_n rfl) (p_reqClinic_n d hq1 _) rfl rfl
  refine ru_call [_] _ 4 rfl rfl rfl rfl rfl (Nat.le_of_ble_eq_true rfl) (cats rfl) (rcv_n rfl) (p_reqClinic_y (d + 2) hq1 _) rfl ?_
  refine ru_st 5 rfl rfl ?_
  refine ru_call [_] _ 8 rfl rfl rfl rfl rfl (Nat.le_of_ble_eq_true rfl) (cats rfl) (rcv_n rfl) (p_X6_isLot (d + 3) _ _) rfl ?_
  refine ru_ifB 11 rfl rfl (fun h8 => ?_) (fun h8 => ?_)
  · skip
    have hz : ¬ (inN lot 10 ∧ inN fr 40001 ∧ inN to 40001 ∧ fr ≤ to) := fun q => h8 q.1
    refine ru_ic 37 (nI 0) rfl (by decide) rfl ?_
    exact J _ (by first | exact (bI_t hz).symm | exact (bI_f hz).symm) hq1
  · skip
    refine ru_st 12 rfl rfl ?_
    refine ru_call [_] _ 15 rfl rfl rfl rfl rfl (Nat.le_of_ble_eq_true rfl) (cats rfl) (rcv_n rfl) (p_X6_isDay (d + 3) _ _) rfl ?_
    refine ru_ifB 18 rfl rfl (fun h15 => ?_) (fun h15 => ?_)
    · skip
      have hz : ¬ (inN lot 10 ∧ inN fr 40001 ∧ inN to 40001 ∧ fr ≤ to) := fun q => h15 q.2.1
      refine ru_ic 37 (nI 0) rfl (by decide) rfl ?_
      exact J _ (by first | exact (bI_t hz).symm | exact (bI_f hz).symm) hq1
    · skip
      refine ru_st 20 rfl rfl ?_
      refine ru_call [_] _ 23 rfl rfl rfl rfl rfl (Nat.le_of_ble_eq_true rfl) (cats rfl) (rcv_n rfl) (p_X6_isDay (d + 3) _ _) rfl ?_
      refine ru_ifB 26 rfl rfl (fun h23 => ?_) (fun h23 => ?_)
      · skip
        have hz : ¬ (inN lot 10 ∧ inN fr 40001 ∧ inN to 40001 ∧ fr ≤ to) := fun q => h23 q.2.2.1
        refine ru_ic 37 (nI 0) rfl (by decide) rfl ?_
        exact J _ (by first | exact (bI_t hz).symm | exact (bI_f hz).symm) hq1
      · skip
        refine ru_st 27 rfl rfl ?_
        refine ru_st 29 rfl rfl ?_
        refine ru_cmpI 32 rfl rfl (fun h29 => ?_) (fun h29 => ?_)
        · dsimp only [cI] at h29
          have hz : ¬ (inN lot 10 ∧ inN fr 40001 ∧ inN to 40001 ∧ fr ≤ to) := fun q => absurd h29 (Int32.not_lt.mpr q.2.2.2)
          refine ru_ic 37 (nI 0) rfl (by decide) rfl ?_
          exact J _ (by first | exact (bI_t hz).symm | exact (bI_f hz).symm) hq1
        · dsimp only [cI] at h29
          have hz : inN lot 10 ∧ inN fr 40001 ∧ inN to 40001 ∧ fr ≤ to := ⟨h8, h15, h23, Int32.not_lt.mp h29⟩
          refine ru_ic 33 (nI 1) rfl (by decide) rfl ?_
          refine ru_st 37 rfl rfl ?_
          exact J _ (by first | exact (bI_t hz).symm | exact (bI_f hz).symm) hq1
theorem p_X6_recall (d : Nat) {G : ma_G} {A : Nat → Nat → Int32} {n : Nat → Nat} {kn : Nat → Nat → Nat} {hr : Nat → Nat → Nat → Nat} (hR : cRd A n kn hr G) (hk : mKn A n kn) (c : Nat) (hc : c < 4) (hcc : kn c c = n c) (hn : n c < 24) {lot fr to : Int32} (h : okRe (nI c) lot fr to) : Cq (d + 5) 51 [.ref 1, .int (nI c), .int lot, .int fr, .int to] G (ad6 A n kn hr G c (nI 3) lot fr to (nI 0)) := by
  refine cq_of rfl ?_
  have J : ∀ u : Int32, u = bI (inN lot 10 ∧ inN fr 40001 ∧ inN to 40001 ∧ fr ≤ to) → Rq (d + 4) M_X6_recall 37 [some (.ref 1), some (.int (nI c)), some (.int lot), some (.int fr), some (.int to)] [.int u] G (Qr (ad6 A n kn hr G c (nI 3) lot fr to (nI 0))) := by
    intro u hu
    subst hu
    refine rq_call [_] _ 40 rfl rfl rfl rfl rfl (Nat.le_of_ble_eq_true rfl) (cats rfl) (rcv_n rfl) (p_require_y (d + 3) (show (inN lot 10 ∧ inN fr 40001 ∧ inN to 40001 ∧ fr ≤ to) from h.2) _) rfl ?_
    refine rq_st 41 rfl rfl ?_
    refine rq_st 42 rfl rfl ?_
    refine rq_ic 43 (nI 3) rfl (by decide) rfl ?_
    refine rq_st 44 rfl rfl ?_
    refine rq_st 45 rfl rfl ?_
    refine rq_st 47 rfl rfl ?_
    refine rq_ic 48 (nI 0) rfl (by decide) rfl ?_
    refine rq_callq [_, _, _, _, _, _, _] _ 51 rfl rfl rfl rfl rfl (Nat.le_of_ble_eq_true rfl) (cats rfl) (rcv_s rfl hR.1.1) (p_X6_append (d + 1) hR hk c hc hcc hn _ _ _ _ _) rfl (fun v9 G3 hv9 => ?_)
    obtain ⟨rfl, hv9⟩ := hv9
    exact rq_iret rfl rfl rfl ⟨rfl, hv9⟩
  refine rq_st 1 rfl rfl ?_
  refine rq_call [_] _ 4 rfl rfl rfl rfl rfl (Nat.le_of_ble_eq_true rfl) (cats rfl) (rcv_n rfl) (p_reqClinic_y (d + 2) h.1 _) rfl ?_
  refine rq_st 5 rfl rfl ?_
  refine rq_call [_] _ 8 rfl rfl rfl rfl rfl (Nat.le_of_ble_eq_true rfl) (cats rfl) (rcv_n rfl) (p_X6_isLot (d + 3) _ _) rfl ?_
  refine rq_ifB 11 rfl rfl (fun h8 => ?_) (fun h8 => ?_)
  · skip
    have hz : ¬ (inN lot 10 ∧ inN fr 40001 ∧ inN to 40001 ∧ fr ≤ to) := fun q => h8 q.1
    refine rq_ic 37 (nI 0) rfl (by decide) rfl ?_
    exact J _ (by first | exact (bI_t hz).symm | exact (bI_f hz).symm)
  · skip
    refine rq_st 12 rfl rfl ?_
    refine rq_call [_] _ 15 rfl rfl rfl rfl rfl (Nat.le_of_ble_eq_true rfl) (cats rfl) (rcv_n rfl) (p_X6_isDay (d + 3) _ _) rfl ?_
    refine rq_ifB 18 rfl rfl (fun h15 => ?_) (fun h15 => ?_)
    · skip
      have hz : ¬ (inN lot 10 ∧ inN fr 40001 ∧ inN to 40001 ∧ fr ≤ to) := fun q => h15 q.2.1
      refine rq_ic 37 (nI 0) rfl (by decide) rfl ?_
      exact J _ (by first | exact (bI_t hz).symm | exact (bI_f hz).symm)
    · skip
      refine rq_st 20 rfl rfl ?_
      refine rq_call [_] _ 23 rfl rfl rfl rfl rfl (Nat.le_of_ble_eq_true rfl) (cats rfl) (rcv_n rfl) (p_X6_isDay (d + 3) _ _) rfl ?_
      refine rq_ifB 26 rfl rfl (fun h23 => ?_) (fun h23 => ?_)
      · skip
        have hz : ¬ (inN lot 10 ∧ inN fr 40001 ∧ inN to 40001 ∧ fr ≤ to) := fun q => h23 q.2.2.1
        refine rq_ic 37 (nI 0) rfl (by decide) rfl ?_
        exact J _ (by first | exact (bI_t hz).symm | exact (bI_f hz).symm)
      · skip
        refine rq_st 27 rfl rfl ?_
        refine rq_st 29 rfl rfl ?_
        refine rq_cmpI 32 rfl rfl (fun h29 => ?_) (fun h29 => ?_)
        · dsimp only [cI] at h29
          have hz : ¬ (inN lot 10 ∧ inN fr 40001 ∧ inN to 40001 ∧ fr ≤ to) := fun q => absurd h29 (Int32.not_lt.mpr q.2.2.2)
          refine rq_ic 37 (nI 0) rfl (by decide) rfl ?_
          exact J _ (by first | exact (bI_t hz).symm | exact (bI_f hz).symm)
        · dsimp only [cI] at h29
          have hz : inN lot 10 ∧ inN fr 40001 ∧ inN to 40001 ∧ fr ≤ to := ⟨h8, h15, h23, Int32.not_lt.mp h29⟩
          refine rq_ic 33 (nI 1) rfl (by decide) rfl ?_
          refine rq_st 37 rfl rfl ?_
          exact J _ (by first | exact (bI_t hz).symm | exact (bI_f hz).symm)
theorem p_X6_recall_full (d : Nat) {G : ma_G} {A : Nat → Nat → Int32} {n : Nat → Nat} {kn : Nat → Nat → Nat} {hr : Nat → Nat → Nat → Nat} (hR : cRd A n kn hr G) (hk : mKn A n kn) (c : Nat) (hc : c < 4) (hn : n c = 24) {lot fr to : Int32} (h : okRe (nI c) lot fr to) : Ca (d + 5) 51 [.ref 1, .int (nI c), .int lot, .int fr, .int to] G (.inr 8002, G, 1, 6) := by
  refine ca_of rfl ?_
  have J : ∀ u : Int32, u = bI (inN lot 10 ∧ inN fr 40001 ∧ inN to 40001 ∧ fr ≤ to) → Ru (d + 4) M_X6_recall 37 [some (.ref 1), some (.int (nI c)), some (.int lot), some (.int fr), some (.int to)] [.int u] G (.inr 8002, G, 1, 6) := by
    intro u hu
    subst hu
    refine ru_call [_] _ 40 rfl rfl rfl rfl rfl (Nat.le_of_ble_eq_true rfl) (cats rfl) (rcv_n rfl) (p_require_y (d + 3) (show (inN lot 10 ∧ inN fr 40001 ∧ inN to 40001 ∧ fr ≤ to) from h.2) _) rfl ?_
    refine ru_st 41 rfl rfl ?_
    refine ru_st 42 rfl rfl ?_
    refine ru_ic 43 (nI 3) rfl (by decide) rfl ?_
    refine ru_st 44 rfl rfl ?_
    refine ru_st 45 rfl rfl ?_
    refine ru_st 47 rfl rfl ?_
    refine ru_ic 48 (nI 0) rfl (by decide) rfl ?_
    exact ru_callt [_, _, _, _, _, _, _] _ rfl rfl rfl rfl rfl (Nat.le_of_ble_eq_true rfl) (cats rfl) (rcv_s rfl hR.1.1) (p_X6_append_full (d + 1) hR hk c hc hn _ _ _ _ _) rfl rfl
  refine ru_st 1 rfl rfl ?_
  refine ru_call [_] _ 4 rfl rfl rfl rfl rfl (Nat.le_of_ble_eq_true rfl) (cats rfl) (rcv_n rfl) (p_reqClinic_y (d + 2) h.1 _) rfl ?_
  refine ru_st 5 rfl rfl ?_
  refine ru_call [_] _ 8 rfl rfl rfl rfl rfl (Nat.le_of_ble_eq_true rfl) (cats rfl) (rcv_n rfl) (p_X6_isLot (d + 3) _ _) rfl ?_
  refine ru_ifB 11 rfl rfl (fun h8 => ?_) (fun h8 => ?_)
  · skip
    have hz : ¬ (inN lot 10 ∧ inN fr 40001 ∧ inN to 40001 ∧ fr ≤ to) := fun q => h8 q.1
    refine ru_ic 37 (nI 0) rfl (by decide) rfl ?_
    exact J _ (by first | exact (bI_t hz).symm | exact (bI_f hz).symm)
  · skip
    refine ru_st 12 rfl rfl ?_
    refine ru_call [_] _ 15 rfl rfl rfl rfl rfl (Nat.le_of_ble_eq_true rfl) (cats rfl) (rcv_n rfl) (p_X6_isDay (d + 3) _ _) rfl ?_
    refine ru_ifB 18 rfl rfl (fun h15 => ?_) (fun h15 => ?_)
    · skip
      have hz : ¬ (inN lot 10 ∧ inN fr 40001 ∧ inN to 40001 ∧ fr ≤ to) := fun q => h15 q.2.1
      refine ru_ic 37 (nI 0) rfl (by decide) rfl ?_
      exact J _ (by first | exact (bI_t hz).symm | exact (bI_f hz).symm)
    · skip
      refine ru_st 20 rfl rfl ?_
      refine ru_call [_] _ 23 rfl rfl rfl rfl rfl (Nat.le_of_ble_eq_true rfl) (cats rfl) (rcv_n rfl) (p_X6_isDay (d + 3) _ _) rfl ?_
      refine ru_ifB 26 rfl rfl (fun h23 => ?_) (fun h23 => ?_)
      · skip
        have hz : ¬ (inN lot 10 ∧ inN fr 40001 ∧ inN to 40001 ∧ fr ≤ to) := fun q => h23 q.2.2.1
        refine ru_ic 37 (nI 0) rfl (by decide) rfl ?_
        exact J _ (by first | exact (bI_t hz).symm | exact (bI_f hz).symm)
      · skip
        refine ru_st 27 rfl rfl ?_
        refine ru_st 29 rfl rfl ?_
        refine ru_cmpI 32 rfl rfl (fun h29 => ?_) (fun h29 => ?_)
        · dsimp only [cI] at h29
          have hz : ¬ (inN lot 10 ∧ inN fr 40001 ∧ inN to 40001 ∧ fr ≤ to) := fun q => absurd h29 (Int32.not_lt.mpr q.2.2.2)
          refine ru_ic 37 (nI 0) rfl (by decide) rfl ?_
          exact J _ (by first | exact (bI_t hz).symm | exact (bI_f hz).symm)
        · dsimp only [cI] at h29
          have hz : inN lot 10 ∧ inN fr 40001 ∧ inN to 40001 ∧ fr ≤ to := ⟨h8, h15, h23, Int32.not_lt.mp h29⟩
          refine ru_ic 33 (nI 1) rfl (by decide) rfl ?_
          refine ru_st 37 rfl rfl ?_
          exact J _ (by first | exact (bI_t hz).symm | exact (bI_f hz).symm)
theorem p_X6_same_bad (d : Nat) {G : ma_G} {c p q : Int32} (h : ¬ okSa c p q) : Ca (d + 5) 53 [.ref 1, .int c, .int p, .int q] G (.inr 8001, G, 1, 6) := by
  refine ca_of rfl ?_
  refine ru_st 1 rfl rfl ?_
  by_cases hq1 : inN c 4
  rotate_left
  · exact ru_callt [_] _ rfl rfl rfl rfl rfl (Nat.le_of_ble_eq_true rfl) (cats rfl) (rcv_n rfl) (p_reqClinic_n d hq1 _) rfl rfl
  refine ru_call [_] _ 4 rfl rfl rfl rfl rfl (Nat.le_of_ble_eq_true rfl) (cats rfl) (rcv_n rfl) (p_reqClinic_y (d + 2) hq1 _) rfl ?_
  refine ru_st 5 rfl rfl ?_
  by_cases hq5 : inN p 12
  rotate_left
  · exact ru_callt [_] _ rfl rfl rfl rfl rfl (Nat.le_of_ble_eq_true rfl) (cats rfl) (rcv_n rfl) (p_reqPerson_n d hq5 _) rfl rfl
  refine ru_call [_] _ 8 rfl rfl rfl rfl rfl (Nat.le_of_ble_eq_true rfl) (cats rfl) (rcv_n rfl) (p_reqPerson_y (d + 2) hq5 _) rfl ?_
  refine ru_st 9 rfl rfl ?_
  by_cases hq9 : inN q 12
  rotate_left
  · exact ru_callt [_] _ rfl rfl rfl rfl rfl (Nat.le_of_ble_eq_true rfl) (cats rfl) (rcv_n rfl) (p_reqPerson_n d hq9 _) rfl rfl
  refine ru_call [_] _ 12 rfl rfl rfl rfl rfl (Nat.le_of_ble_eq_true rfl) (cats rfl) (rcv_n rfl) (p_reqPerson_y (d + 2) hq9 _) rfl ?_
  exact absurd ⟨hq1, hq5, hq9⟩ h
theorem p_X6_same (d : Nat) {G : ma_G} {A : Nat → Nat → Int32} {n : Nat → Nat} {kn : Nat → Nat → Nat} {hr : Nat → Nat → Nat → Nat} (hR : cRd A n kn hr G) (hk : mKn A n kn) (c : Nat) (hc : c < 4) (hcc : kn c c = n c) (hn : n c < 24) {p q : Int32} (h : okSa (nI c) p q) : Cq (d + 5) 53 [.ref 1, .int (nI c), .int p, .int q] G (ad6 A n kn hr G c (nI 4) p q (nI 0) (nI 0)) := by
  refine cq_of rfl ?_
  refine rq_st 1 rfl rfl ?_
  refine rq_call [_] _ 4 rfl rfl rfl rfl rfl (Nat.le_of_ble_eq_true rfl) (cats rfl) (rcv_n rfl) (p_reqClinic_y (d + 2) h.1 _) rfl ?_
  refine rq_st 5 rfl rfl ?_
  refine rq_call [_] _ 8 rfl rfl rfl rfl rfl (Nat.le_of_ble_eq_true rfl) (cats rfl) (rcv_n rfl) (p_reqPerson_y (d + 2) h.2.1 _) rfl ?_
  refine rq_st 9 rfl rfl ?_
  refine rq_call [_] _ 12 rfl rfl rfl rfl rfl (Nat.le_of_ble_eq_true rfl) (cats rfl) (rcv_n rfl) (p_reqPerson_y (d + 2) h.2.2 _) rfl ?_
  refine rq_st 13 rfl rfl ?_
  refine rq_st 14 rfl rfl ?_
  refine rq_ic 15 (nI 4) rfl (by decide) rfl ?_
  refine rq_st 16 rfl rfl ?_
  refine rq_st 17 rfl rfl ?_
  refine rq_ic 18 (nI 0) rfl (by decide) rfl ?_
  refine rq_ic 19 (nI 0) rfl (by decide) rfl ?_
  refine rq_callq [_, _, _, _, _, _, _] _ 22 rfl rfl rfl rfl rfl (Nat.le_of_ble_eq_true rfl) (cats rfl) (rcv_s rfl hR.1.1) (p_X6_append (d + 1) hR hk c hc hcc hn _ _ _ _ _) rfl (fun v9 G3 hv9 => ?_)
  obtain ⟨rfl, hv9⟩ := hv9
  exact rq_iret rfl rfl rfl ⟨rfl, hv9⟩
theorem p_X6_same_full (d : Nat) {G : ma_G} {A : Nat → Nat → Int32} {n : Nat → Nat} {kn : Nat → Nat → Nat} {hr : Nat → Nat → Nat → Nat} (hR : cRd A n kn hr G) (hk : mKn A n kn) (c : Nat) (hc : c < 4) (hn : n c = 24) {p q : Int32} (h : okSa (nI c) p q) : Ca (d + 5) 53 [.ref 1, .int (nI c), .int p, .int q] G (.inr 8002, G, 1, 6) := by
  refine ca_of rfl ?_
  refine ru_st 1 rfl rfl ?_
  refine ru_call [_] _ 4 rfl rfl rfl rfl rfl (Nat.le_of_ble_eq_true rfl) (cats rfl) (rcv_n rfl) (p_reqClinic_y (d + 2) h.1 _) rfl ?_
  refine ru_st 5 rfl rfl ?_
  refine ru_call [_] _ 8 rfl rfl rfl rfl rfl (Nat.le_of_ble_eq_true rfl) (cats rfl) (rcv_n rfl) (p_reqPerson_y (d + 2) h.2.1 _) rfl ?_
  refine ru_st 9 rfl rfl ?_
  refine ru_call [_] _ 12 rfl rfl rfl rfl rfl (Nat.le_of_ble_eq_true rfl) (cats rfl) (rcv_n rfl) (p_reqPerson_y (d + 2) h.2.2 _) rfl ?_
  refine ru_st 13 rfl rfl ?_
  refine ru_st 14 rfl rfl ?_
  refine ru_ic 15 (nI 4) rfl (by decide) rfl ?_
  refine ru_st 16 rfl rfl ?_
  refine ru_st 17 rfl rfl ?_
  refine ru_ic 18 (nI 0) rfl (by decide) rfl ?_
  refine ru_ic 19 (nI 0) rfl (by decide) rfl ?_
  exact ru_callt [_, _, _, _, _, _, _] _ rfl rfl rfl rfl rfl (Nat.le_of_ble_eq_true rfl) (cats rfl) (rcv_s rfl hR.1.1) (p_X6_append_full (d + 1) hR hk c hc hn _ _ _ _ _) rfl rfl
