theorem p_X6_write_bad (d : Nat) {G : ma_G} {c s : Int32} (h : ¬ (inN c 4 ∧ inN s 3)) : Ca (d + 5) 55 [.ref 1, .int c, .int s] G (.inr 8001, G, 1, 6) := by
  refine ca_of rfl ?_
  refine ru_st 1 rfl rfl ?_
  by_cases hq1 : inN c 4
  rotate_left
  · exact ru_callt [_] _ rfl rfl rfl rfl rfl (Nat.le_of_ble_eq_true rfl) (cats rfl) (rcv_n rfl) (p_reqClinic_n d hq1 _) rfl rfl
  refine ru_call [_] _ 4 rfl rfl rfl rfl rfl (Nat.le_of_ble_eq_true rfl) (cats rfl) (rcv_n rfl) (p_reqClinic_y (d + 2) hq1 _) rfl ?_
  refine ru_st 5 rfl rfl ?_
  by_cases hq5 : inN s 3
  rotate_left
  · exact ru_callt [_] _ rfl rfl rfl rfl rfl (Nat.le_of_ble_eq_true rfl) (cats rfl) (rcv_n rfl) (p_reqStick_n d hq5 _) rfl rfl
  refine ru_call [_] _ 8 rfl rfl rfl rfl rfl (Nat.le_of_ble_eq_true rfl) (cats rfl) (rcv_n rfl) (p_reqStick_y (d + 2) hq5 _) rfl ?_
  exact absurd ⟨hq1, hq5⟩ h
theorem p_X6_load_bad (d : Nat) {G : ma_G} {c s : Int32} (h : ¬ (inN c 4 ∧ inN s 3)) : Ca (d + 5) 66 [.ref 1, .int c, .int s] G (.inr 8001, G, 1, 6) := by
  refine ca_of rfl ?_
  refine ru_st 1 rfl rfl ?_
  by_cases hq1 : inN c 4
  rotate_left
  · exact ru_callt [_] _ rfl rfl rfl rfl rfl (Nat.le_of_ble_eq_true rfl) (cats rfl) (rcv_n rfl) (p_reqClinic_n d hq1 _) rfl rfl
  refine ru_call [_] _ 4 rfl rfl rfl rfl rfl (Nat.le_of_ble_eq_true rfl) (cats rfl) (rcv_n rfl) (p_reqClinic_y (d + 2) hq1 _) rfl ?_
  refine ru_st 5 rfl rfl ?_
  by_cases hq5 : inN s 3
  rotate_left
  · exact ru_callt [_] _ rfl rfl rfl rfl rfl (Nat.le_of_ble_eq_true rfl) (cats rfl) (rcv_n rfl) (p_reqStick_n d hq5 _) rfl rfl
  refine ru_call [_] _ 8 rfl rfl rfl rfl rfl (Nat.le_of_ble_eq_true rfl) (cats rfl) (rcv_n rfl) (p_reqStick_y (d + 2) hq5 _) rfl ?_
  exact absurd ⟨hq1, hq5⟩ h
def wr6 (kn : Nat → Nat → Nat) (hr : Nat → Nat → Nat → Nat) (c s : Nat) (G : ma_G) (r : Option Value) (G' : ma_G) : Prop := r = some (.int (nI (1 + ((wrL hr kn c 4).length + 3) / 4))) ∧ sm (sIn (33 + 4 * s)) G G' ∧ ∃ Wk B E, sk G' (33 + 4 * s) Wk B E (nI c) (nI (wrL hr kn c 4).length) (nI (1 + ((wrL hr kn c 4).length + 3) / 4)) ∧ (∀ e, e < 4 → Wk e = nI (kn c e)) ∧ lstF (fun x => x / 24) B 0 (wrL hr kn c 4) ∧ lstF (fun x => x % 24) E 0 (wrL hr kn c 4)
theorem lst0_app {h : Nat → Nat} {g : Nat → Int32} {x y : Nat} {l : List Nat} (q : lstF h g 0 l) (hy : h x = y) : lstF h (upd g l.length (nI y)) 0 (l ++ [x]) := by
  have := lstF_app (h := h) (x := x) q
  rw [hy, Nat.zero_add] at this
  exact this
theorem p_X6_write (d : Nat) {G : ma_G} {A : Nat → Nat → Int32} {n : Nat → Nat} {kn : Nat → Nat → Nat} {hr : Nat → Nat → Nat → Nat} (hR : cRd A n kn hr G) (hk : mKn A n kn) {w my wr : Nat → Nat} {sy : Nat → Nat → Nat} {ls : Nat → List Nat} (hS : cSt w my wr sy ls G) (c : Nat) (hc : c < 4) (s : Nat) (hs3 : s < 3) : Cq (d + 5) 55 [.ref 1, .int (nI c), .int (nI s)] G (wr6 kn hr c s G) := by
  refine cq_of rfl ?_
  obtain ⟨⟨hx, ⟨f2, hf2, hf2b⟩, ⟨f6, hf6, hf6b⟩, ⟨f7, hf7, hf7b⟩, ⟨f32, hf32, hf32b⟩⟩, hbk, hcl⟩ := id hR
  obtain ⟨Kn, Hd, hl, hK, hH⟩ := hcl c hc
  obtain ⟨Wk0, B0, E0, hk0, -⟩ := hS s hs3
  have hkl : ∀ d, d < 4 → kn c d ≤ 24 := fun d hd => hk.le hc hd
  have outer : ∀ (m dd : Nat) (o6 : Option Value) (l : List Nat) (Wk B E : Nat → Int32) (G2 : ma_G), dd + m = 4 → l = wrL hr kn c dd → (∀ e, e < dd → Wk e = nI (kn c e)) → lstF (fun x => x / 24) B 0 l → lstF (fun x => x % 24) E 0 l → sk G2 (33 + 4 * s) Wk B E (nI c) (nI l.length) (nI (w s)) → sm (sIn (33 + 4 * s)) G G2 → Rq (d + 4) M_X6_write 32 [some (.ref 1), some (.int (nI c)), some (.int (nI s)), some (.ref (11 + 6 * c)), some (.ref (33 + 4 * s)), some (.int (nI dd)), o6] [] G2 (Qr (wr6 kn hr c s G)) := by
    intro m
    induction m with
    | zero =>
      intro dd o6 l Wk B E G2 hdd hl0 hWk hB hE hk2 hs2
      obtain rfl : dd = 4 := by omega
      subst hl0
      have hlen := wrL_len (hr := hr) hkl 4 (by omega)
      refine rq_st 34 rfl rfl ?_
      refine rq_ic 35 (nI 4) rfl (by decide) rfl ?_
      refine rq_cmpt rfl ((ma_cmpN (by omega) (by omega)).mpr (by show 4 ≤ 4; omega)) ?_
      refine rq_st 93 rfl rfl ?_
      refine rq_callq [_] _ 96 rfl rfl rfl rfl rfl (Nat.le_of_ble_eq_true rfl) (cats rfl) (rcv_s rfl hk2.1) (p_X5_finish (d + 3) hk2 (by omega)) rfl (fun v9 G3 hv9 => ?_)
      obtain ⟨rfl, hs3, hk3⟩ := hv9
      refine rq_st 98 rfl rfl ?_
      refine rq_call [_] _ 101 rfl rfl rfl rfl rfl (Nat.le_of_ble_eq_true rfl) (cats rfl) (rcv_s rfl hk3.1) (p_X5_wholePages (d + 3) hk3) rfl ?_
      exact rq_iret rfl rfl rfl ⟨rfl, hs2.tr hs3, Wk, B, E, hk3, hWk, hB, hE⟩
    | succ m ih =>
      intro dd o6 l Wk B E G2 hdd hl0 hWk hB hE hk2 hs2
      have hd4 : dd < 4 := by omega
      have hlen := wrL_len (hr := hr) hkl dd (by omega)
      rw [← hl0] at hlen
      have hkd := hkl dd hd4
      have hls := lsN_le hr c dd 4
      have hl2 := (hl.sm hs2 (fun q => absurd q.1 (by omega)) (fun q => absurd q.1 (by omega)) (fun q => absurd q.1 (by omega)))
      have inner : ∀ (m2 i : Nat) (l : List Nat) (Wk B E : Nat → Int32) (G2 : ma_G), m2 = kn c dd - i → i ≤ 24 → l.length + m2 ≤ 24 * dd + 24 → wrL hr kn c (dd + 1) = apR l (24 * dd + i) m2 → (∀ e, e < dd + 1 → Wk e = nI (kn c e)) → lstF (fun x => x / 24) B 0 l → lstF (fun x => x % 24) E 0 l → sk G2 (33 + 4 * s) Wk B E (nI c) (nI l.length) (nI (w s)) → sm (sIn (33 + 4 * s)) G G2 → Rq (d + 4) M_X6_write 59 [some (.ref 1), some (.int (nI c)), some (.int (nI s)), some (.ref (11 + 6 * c)), some (.ref (33 + 4 * s)), some (.int (nI dd)), some (.int (nI i))] [] G2 (Qr (wr6 kn hr c s G)) := by
        intro m2
        induction m2 with
        | zero =>
          intro i l Wk B E G2 hi hi2 hll hfin hWk hB hE hk2 hs2
          have hl2 := (hl.sm hs2 (fun q => absurd q.1 (by omega)) (fun q => absurd q.1 (by omega)) (fun q => absurd q.1 (by omega)))
          refine rq_st 61 rfl rfl ?_
          refine rq_st 62 rfl rfl ?_
          refine rq_st 64 rfl rfl ?_
          refine rq_call [_, _] _ 67 rfl rfl rfl rfl rfl (Nat.le_of_ble_eq_true rfl) (cats rfl) (rcv_s rfl hl2.1) (p_X1_knows (d + 2) hl2 hK dd hd4) rfl ?_
          refine rq_cmpt rfl ((ma_cmpN (by omega) (by omega)).mpr (by show kn c dd ≤ i; omega)) ?_
          refine rq_incN 88 _ rfl rfl (nI_1 _) rfl rfl ?_
          refine rq_st 32 rfl rfl ?_
          exact ih (dd + 1) _ l Wk B E G2 (by omega) hfin.symm hWk hB hE hk2 hs2
        | succ m2 ihi =>
          intro i l Wk B E G2 hi hi2 hll hfin hWk hB hE hk2 hs2
          have hl2 := (hl.sm hs2 (fun q => absurd q.1 (by omega)) (fun q => absurd q.1 (by omega)) (fun q => absurd q.1 (by omega)))
          refine rq_st 61 rfl rfl ?_
          refine rq_st 62 rfl rfl ?_
          refine rq_st 64 rfl rfl ?_
          refine rq_call [_, _] _ 67 rfl rfl rfl rfl rfl (Nat.le_of_ble_eq_true rfl) (cats rfl) (rcv_s rfl hl2.1) (p_X1_knows (d + 2) hl2 hK dd hd4) rfl ?_
          refine rq_cmpf 70 rfl rfl (by rw [← Bool.not_eq_true, ma_cmpN (by omega) (by omega)]; show ¬ kn c dd ≤ i; omega) ?_
          refine rq_st 72 rfl rfl ?_
          refine rq_st 74 rfl rfl ?_
          refine rq_st 76 rfl rfl ?_
          refine rq_callq [_, _, _] _ 79 rfl rfl rfl rfl rfl (Nat.le_of_ble_eq_true rfl) (cats rfl) (rcv_s rfl hk2.1) (p_X5_add (d + 3) hk2 (by omega) (nI dd) (nI i)) rfl (fun v9 G3 hv9 => ?_)
          obtain ⟨rfl, hs3, hk3⟩ := hv9
          refine rq_incN 82 _ rfl rfl (nI_1 _) rfl rfl ?_
          refine rq_st 59 rfl rfl ?_
          exact ihi (i + 1) (l ++ [24 * dd + i]) Wk _ _ _ (by omega) (by omega) (by rw [List.length_append, List.length_singleton]; omega) hfin hWk (lst0_app hB (by show (24 * dd + i) / 24 = dd; omega)) (lst0_app hE (by show (24 * dd + i) % 24 = i; omega)) (by rw [List.length_append, List.length_singleton]; exact hk3) (hs2.tr hs3)
      refine rq_st 34 rfl rfl ?_
      refine rq_ic 35 (nI 4) rfl (by decide) rfl ?_
      refine rq_cmpf 38 rfl rfl (by rw [← Bool.not_eq_true, ma_cmpN (by omega) (by omega)]; show ¬ 4 ≤ dd; omega) ?_
      refine rq_st 40 rfl rfl ?_
      refine rq_st 42 rfl rfl ?_
      refine rq_st 43 rfl rfl ?_
      refine rq_st 45 rfl rfl ?_
      refine rq_call [_, _] _ 48 rfl rfl rfl rfl rfl (Nat.le_of_ble_eq_true rfl) (cats rfl) (rcv_s rfl hl2.1) (p_X1_knows (d + 2) hl2 hK dd hd4) rfl ?_
      refine rq_callq [_, _, _] _ 51 rfl rfl rfl rfl rfl (Nat.le_of_ble_eq_true rfl) (cats rfl) (rcv_s rfl hk2.1) (p_X5_setWriterKnew (d + 2) hk2 dd hd4 (nI (kn c dd))) rfl (fun v9 G3 hv9 => ?_)
      obtain ⟨rfl, hs3, hk3⟩ := hv9
      have hl3 := hl.sm (hs2.tr hs3) (fun q => absurd q.1 (by omega)) (fun q => absurd q.1 (by omega)) (fun q => absurd q.1 (by omega))
      refine rq_st 52 rfl rfl ?_
      refine rq_st 54 rfl rfl ?_
      refine rq_call [_, _] _ 57 rfl rfl rfl rfl rfl (Nat.le_of_ble_eq_true rfl) (cats rfl) (rcv_s rfl hl3.1) (p_X1_leastHeard (d + 1) hl3 hH hc dd hd4) rfl ?_
      refine rq_st 59 rfl rfl ?_
      exact inner (kn c dd - lsN hr c dd 4) (lsN hr c dd 4) l _ B E G3 rfl hls (by omega) (by rw [hl0]; rfl) (fun e he => by
        by_cases q : e = dd
        · rw [q]; exact pk_us
        · rw [pk_un q]; exact hWk e (by omega)) hB hE hk3 (hs2.tr hs3)
  refine rq_st 1 rfl rfl ?_
  refine rq_call [_] _ 4 rfl rfl rfl rfl rfl (Nat.le_of_ble_eq_true rfl) (cats rfl) (rcv_n rfl) (p_reqClinic_y (d + 2) ⟨c, hc, rfl⟩ _) rfl ?_
  refine rq_st 5 rfl rfl ?_
  refine rq_call [_] _ 8 rfl rfl rfl rfl rfl (Nat.le_of_ble_eq_true rfl) (cats rfl) (rcv_n rfl) (p_reqStick_y (d + 2) ⟨s, hs3, rfl⟩ _) rfl ?_
  refine rq_st 9 rfl rfl ?_
  refine rq_getf 12 rfl hx rfl rfl ?_
  refine rq_st 13 rfl rfl ?_
  refine rq_aalN 14 rfl hf7 (by omega) (by decide) (hf7b c hc) rfl ?_
  refine rq_st 15 rfl rfl ?_
  refine rq_st 16 rfl rfl ?_
  refine rq_getf 19 rfl hx rfl rfl ?_
  refine rq_st 20 rfl rfl ?_
  refine rq_aalN 21 rfl hf32 (by omega) (by decide) (hf32b s hs3) rfl ?_
  refine rq_st 23 rfl rfl ?_
  refine rq_st 25 rfl rfl ?_
  refine rq_st 26 rfl rfl ?_
  refine rq_callq [_, _] _ 29 rfl rfl rfl rfl rfl (Nat.le_of_ble_eq_true rfl) (cats rfl) (rcv_s rfl hk0.1) (p_X5_begin (d + 3) hk0 (nI c)) rfl (fun v9 G3 hv9 => ?_)
  obtain ⟨rfl, hs9, hk9⟩ := hv9
  refine rq_ic 30 (nI 0) rfl (by decide) rfl ?_
  refine rq_st 32 rfl rfl ?_
  exact outer 4 0 _ [] Wk0 B0 E0 G3 (by omega) rfl (fun e he => absurd he (Nat.not_lt_zero e)) (fun j hj => absurd hj (Nat.not_lt_zero j)) (fun j hj => absurd hj (Nat.not_lt_zero j)) hk9 hs9
def hrX (hr : Nat → Nat → Nat → Nat) (c wr : Nat) (sy : Nat → Nat) (dd : Nat) : Nat → Nat → Nat → Nat := if wr ≠ c then hrH hr c wr sy dd else hr
theorem clH_up {hr : Nat → Nat → Nat → Nat} {c wr : Nat} {sy : Nat → Nat} {dd : Nat} {Hd : Nat → Int32} (hw : wr < 4) (hd : dd < 4) (hs : sy dd ≤ 24) (h : clH c (hrX hr c wr sy dd) Hd) (hq : wr ≠ c ∧ hrX hr c wr sy dd c wr dd < sy dd) : clH c (hrX hr c wr sy (dd + 1)) (upd Hd (4 * wr + dd) (nI (sy dd))) := by
  intro b e hb he
  have h0 := h b e hb he
  unfold hrX at h0 hq ⊢
  rw [if_pos hq.1] at h0 hq ⊢
  rw [hrH_d.1] at hq
  by_cases q : b = wr ∧ e = dd
  · obtain ⟨rfl, rfl⟩ := q
    rw [pk_us, hrH_d.2, if_pos hq.2]
    exact ⟨rfl, hs⟩
  · rw [pk_un (by omega), hrH_s (fun p => q p.2)]
    exact h0
theorem clH_no {hr : Nat → Nat → Nat → Nat} {c wr : Nat} {sy : Nat → Nat} {dd : Nat} {Hd : Nat → Int32} (h : clH c (hrX hr c wr sy dd) Hd) (hq : ¬ (wr ≠ c ∧ hrX hr c wr sy dd c wr dd < sy dd)) : clH c (hrX hr c wr sy (dd + 1)) Hd := by
  intro b e hb he
  have h0 := h b e hb he
  unfold hrX at h0 hq ⊢
  by_cases hc : wr = c
  · rw [if_neg (fun q => q hc)] at h0 ⊢
    exact h0
  · rw [if_pos hc] at h0 hq ⊢
    rw [hrH_d.1] at hq
    by_cases q : b = wr ∧ e = dd
    · obtain ⟨rfl, rfl⟩ := q
      rw [hrH_d.1] at h0
      rw [hrH_d.2, if_neg (fun p => hq ⟨hc, p⟩)]
      exact h0
    · rw [hrH_s (fun p => q p.2)]
      exact h0
def hw6 (hr : Nat → Nat → Nat → Nat) (a c wr w : Nat) (sy : Nat → Nat) (Kn : Nat → Int32) (G : ma_G) (r : Option Value) (G' : ma_G) : Prop := r = none ∧ sm (fun x => x = a + 2) G G' ∧ ∃ Hd, cl G' a c Kn Hd ∧ clH c (hrF hr c wr sy w) Hd
theorem p_X6_hearWriter (d : Nat) {G : ma_G} {a b c wr w : Nat} {Kn Hd Wk B E : Nat → Int32} {ec : Int32} {sy : Nat → Nat} {hr : Nat → Nat → Nat → Nat} (hl : cl G a c Kn Hd) (hH : clH c hr Hd) (hc : c < 4) (hk0 : sk G b Wk B E (nI wr) ec (nI w)) (hw : w ≤ 25) (hwr : wr < 4) (hWk : ∀ e, e < 4 → Wk e = nI (sy e) ∧ sy e ≤ 24) (hdis : ∀ k, k < 4 → ¬ b + k = a + 2) : Cq (d + 4) 67 [.ref a, .ref b] G (hw6 hr a c wr w sy Kn G) := by
  refine cq_of rfl ?_
  have loop : 0 < w → ∀ (m dd : Nat) (Hd : Nat → Int32) (G2 : ma_G), dd + m = 4 → clH c (hrX hr c wr sy dd) Hd → cl G2 a c Kn Hd → sm (fun x => x = a + 2) G G2 → Rq (d + 3) M_X6_hearWriter 10 [some (.ref a), some (.ref b), some (.int (nI dd))] [] G2 (Qr (hw6 hr a c wr w sy Kn G)) := by
    intro hw0 m
    induction m with
    | zero =>
      intro dd Hd G2 hdd hH2 hl2 hs2
      obtain rfl : dd = 4 := by omega
      refine rq_st 11 rfl rfl ?_
      refine rq_ic 12 (nI 4) rfl (by decide) rfl ?_
      refine rq_cmpt rfl ((ma_cmpN (by omega) (by omega)).mpr (by show 4 ≤ 4; omega)) ?_
      exact rq_vret rfl rfl ⟨rfl, hs2, Hd, hl2, by
  unfold hrF
  unfold hrX at hH2
  by_cases q : wr = c
  · rw [if_neg (fun p => p.2 q)]; rw [if_neg (fun p => p q)] at hH2; exact hH2
  · rw [if_pos ⟨hw0, q⟩]; rw [if_pos q] at hH2; exact hH2⟩
    | succ m ih =>
      intro dd Hd G2 hdd hH2 hl2 hs2
      have hd4 : dd < 4 := by omega
      have hk2 := (hk0.sm hs2 (fun k hk q => hdis k hk q))
      refine rq_st 11 rfl rfl ?_
      refine rq_ic 12 (nI 4) rfl (by decide) rfl ?_
      refine rq_cmpf 15 rfl rfl (by rw [← Bool.not_eq_true, ma_cmpN (by omega) (by omega)]; show ¬ 4 ≤ dd; omega) ?_
      refine rq_st 16 rfl rfl ?_
      refine rq_st 17 rfl rfl ?_
      refine rq_call [_] _ 20 rfl rfl rfl rfl rfl (Nat.le_of_ble_eq_true rfl) (cats rfl) (rcv_s rfl hk2.1) (p_X5_writer (d + 2) hk2 hw) rfl ?_
      rw [if_pos hw0]
      refine rq_st 21 rfl rfl ?_
      refine rq_st 22 rfl rfl ?_
      refine rq_st 23 rfl rfl ?_
      refine rq_call [_, _] _ 26 rfl rfl rfl rfl rfl (Nat.le_of_ble_eq_true rfl) (cats rfl) (rcv_s rfl hk2.1) (p_X5_writerKnew (d + 1) hk2 dd hd4) rfl ?_
      rw [(hWk dd hd4).1]
      refine rq_callq [_, _, _, _] _ 29 rfl rfl rfl rfl rfl (Nat.le_of_ble_eq_true rfl) (cats rfl) (rcv_s rfl hl2.1) (p_X1_hear d hl2 hH2 hc wr hwr dd hd4 (sy dd) (hWk dd hd4).2) rfl (fun v9 G3 hv9 => ?_)
      obtain ⟨rfl, hs3, hv9⟩ := hv9
      refine rq_incN 32 _ rfl rfl (nI_1 _) rfl rfl ?_
      refine rq_st 10 rfl rfl ?_
      rcases hv9 with ⟨hq, hl3⟩ | ⟨hq, hl3⟩
      · exact ih (dd + 1) _ G3 (by omega) (clH_up hwr hd4 (hWk dd hd4).2 hH2 hq) hl3 (hs2.tr hs3)
      · exact ih (dd + 1) _ G3 (by omega) (clH_no hH2 hq) hl3 (hs2.tr hs3)
  refine rq_st 1 rfl rfl ?_
  refine rq_call [_] _ 4 rfl rfl rfl rfl rfl (Nat.le_of_ble_eq_true rfl) (cats rfl) (rcv_s rfl hk0.1) (p_X5_wholePages (d + 2) hk0) rfl ?_
  refine rq_ifN 7 rfl rfl (by omega) (fun h4 => ?_) (fun h4 => ?_)
  · dsimp only [cN] at h4
    refine rq_ic 9 (nI 0) rfl (by decide) rfl ?_
    refine rq_st 10 rfl rfl ?_
    exact loop (by omega) 4 0 Hd G (by omega) (by unfold hrX; rw [hrH_0, ite_self]; exact hH) hl sm.rf
  · dsimp only [cN] at h4
    exact rq_vret rfl rfl ⟨rfl, sm.rf, Hd, hl, by unfold hrF; rw [if_neg (by omega)]; exact hH⟩
theorem ldS_o {kn : Nat → Nat → Nat} {c x e : Nat} {l : List Nat} (h : x ≠ c) : ∀ k, (ldS kn c l k).1 x e = kn x e := by
  intro k
  induction k with
  | zero => rfl
  | succ k ih =>
    rw [ldS]
    split
    · show kup (ldS kn c l k).1 c (l.getD k 0 / 24) x e = _
      rw [kup_n (fun q => h q.1), ih]
    · exact ih
theorem clK_up {q : Nat → Nat → Nat} {c e : Nat} {Kn : Nat → Int32} (h : clK c q Kn) (hn : q c e < 24) : clK c (kup q c e) (upd Kn e (nI (q c e + 1))) := by
  intro x hx
  by_cases p : x = e
  · subst p; rw [pk_us, kup_y]; exact ⟨rfl, by omega⟩
  · rw [pk_un p, kup_n (fun r => p r.2)]; exact h x hx
def lo6 (kn : Nat → Nat → Nat) (hr : Nat → Nat → Nat → Nat) (c wr w rd : Nat) (sy : Nat → Nat) (l : List Nat) (G : ma_G) (r : Option Value) (G' : ma_G) : Prop := r = some (.int (nI (ldS kn c l rd).2)) ∧ sm (eIn c) G G' ∧ ∃ Kn Hd, cl G' (11 + 6 * c) c Kn Hd ∧ clK c (ldS kn c l rd).1 Kn ∧ clH c (hrF hr c wr sy w) Hd ∧ sm (fun x => x = 12 + 6 * c ∨ x = 13 + 6 * c) G G'
theorem p_X6_load (d : Nat) {G : ma_G} {A : Nat → Nat → Int32} {n : Nat → Nat} {kn : Nat → Nat → Nat} {hr : Nat → Nat → Nat → Nat} (hR : cRd A n kn hr G) (hk : mKn A n kn) {A2 : Nat → Nat → Int32} {w my wr : Nat → Nat} {sy : Nat → Nat → Nat} {ls : Nat → List Nat} (hS : cSt w my wr sy ls G) (hst : mSt A w my) (hsk0 : mSk A n my wr sy ls) (c : Nat) (hc : c < 4) (s : Nat) (hs3 : s < 3) : Cq (d + 5) 66 [.ref 1, .int (nI c), .int (nI s)] G (lo6 kn hr c (wr s) (w s) (rdN (w s) (my s)) (sy s) (ls s) G) := by
  refine cq_of rfl ?_
  obtain ⟨⟨hx, ⟨f2, hf2, hf2b⟩, ⟨f6, hf6, hf6b⟩, ⟨f7, hf7, hf7b⟩, ⟨f32, hf32, hf32b⟩⟩, hbk, hcl⟩ := id hR
  obtain ⟨Kn0, Hd0, hl0, hK0, hH0⟩ := hcl c hc
  obtain ⟨Wk, B, E, hk0, hW, hB, hE⟩ := hS s hs3
  have hst1 := hst s hs3
  have hsk := hsk0 s hs3
  have hrd := rdN_le (w s) (my s)
  have hrd96 : (rdN (w s) (my s)) ≤ 96 := by omega
  have loop : ∀ (Hd : Nat → Int32), clH c (hrF hr c (wr s) (sy s) (w s)) Hd → ∀ (m kk : Nat) (Kn : Nat → Int32) (G2 : ma_G) (o7 : Option Value), kk + m = (rdN (w s) (my s)) → clK c (ldS kn c (ls s) kk).1 Kn → cl G2 (11 + 6 * c) c Kn Hd → sm (fun x => x = 12 + 6 * c ∨ x = 13 + 6 * c) G G2 → Rq (d + 4) M_X6_load 35 [some (.ref 1), some (.int (nI c)), some (.int (nI s)), some (.ref (11 + 6 * c)), some (.ref (33 + 4 * s)), some (.int (nI (ldS kn c (ls s) kk).2)), some (.int (nI kk)), o7] [] G2 (Qr (lo6 kn hr c (wr s) (w s) (rdN (w s) (my s)) (sy s) (ls s) G)) := by
    intro Hd hH2 m
    induction m with
    | zero =>
      intro kk Kn G2 o7 hkk hK2 hl2 hs2
      have hk2 := hk0.sm hs2 (fun k hk q => by rcases q with q | q <;> omega)
      refine rq_st 37 rfl rfl ?_
      refine rq_st 39 rfl rfl ?_
      refine rq_call [_] _ 42 rfl rfl rfl rfl rfl (Nat.le_of_ble_eq_true rfl) (cats rfl) (rcv_s rfl hk2.1) (p_X5_entryCount (d + 3) hk2) rfl ?_
      refine rq_cmpt rfl ((ma_cmpN (by omega) (by omega)).mpr (by show (rdN (w s) (my s)) ≤ kk; omega)) ?_
      obtain rfl : kk = (rdN (w s) (my s)) := by omega
      refine rq_st 87 rfl rfl ?_
      exact rq_iret rfl rfl rfl ⟨rfl, hs2.mono (fun a h => by rcases h with h | h <;> subst h <;> exact ⟨by omega, by omega⟩), Kn, Hd, hl2, hK2, hH2, hs2⟩
    | succ m ih =>
      intro kk Kn G2 o7 hkk hK2 hl2 hs2
      have hk2 := hk0.sm hs2 (fun k hk q => by rcases q with q | q <;> omega)
      have hx9 := hsk.2.2.2.2.2 _ (getD_mem (l := ls s) (k := kk) (by rw [hsk.2.2.2.2.1]; omega))
      have hb1 : B kk = nI ((ls s).getD kk 0 / 24) := by rw [← hB kk (by rw [hsk.2.2.2.2.1]; omega), Nat.zero_add]
      have he1 : E kk = nI ((ls s).getD kk 0 % 24) := by rw [← hE kk (by rw [hsk.2.2.2.2.1]; omega), Nat.zero_add]
      have hfr := ldS_le (kn := kn) (c := c) (l := ls s) kk
      refine rq_st 37 rfl rfl ?_
      refine rq_st 39 rfl rfl ?_
      refine rq_call [_] _ 42 rfl rfl rfl rfl rfl (Nat.le_of_ble_eq_true rfl) (cats rfl) (rcv_s rfl hk2.1) (p_X5_entryCount (d + 3) hk2) rfl ?_
      refine rq_cmpf 45 rfl rfl (by rw [← Bool.not_eq_true, ma_cmpN (by omega) (by omega)]; show ¬ (rdN (w s) (my s)) ≤ kk; omega) ?_
      refine rq_st 47 rfl rfl ?_
      refine rq_st 49 rfl rfl ?_
      refine rq_call [_, _] _ 52 rfl rfl rfl rfl rfl (Nat.le_of_ble_eq_true rfl) (cats rfl) (rcv_s rfl hk2.1) (p_X5_bookAt (d + 2) hk2 hrd96 kk (by omega)) rfl ?_
      rw [hb1]
      refine rq_st 54 rfl rfl ?_
      refine rq_st 56 rfl rfl ?_
      refine rq_st 58 rfl rfl ?_
      refine rq_call [_, _] _ 61 rfl rfl rfl rfl rfl (Nat.le_of_ble_eq_true rfl) (cats rfl) (rcv_s rfl hk2.1) (p_X5_numberAt (d + 2) hk2 hrd96 kk (by omega)) rfl ?_
      rw [he1]
      refine rq_st 62 rfl rfl ?_
      refine rq_st 64 rfl rfl ?_
      refine rq_call [_, _] _ 67 rfl rfl rfl rfl rfl (Nat.le_of_ble_eq_true rfl) (cats rfl) (rcv_s rfl hl2.1) (p_X1_knows (d + 2) hl2 hK2 ((ls s).getD kk 0 / 24) (by omega)) rfl ?_
      have hq24 := (hK2 ((ls s).getD kk 0 / 24) (by omega)).2
      refine rq_cmpN 70 rfl rfl (by omega) (by omega) (fun h67 => ?_) (fun h67 => ?_)
      · dsimp only [cN] at h67
        refine rq_incN 82 _ rfl rfl (nI_1 _) rfl rfl ?_
        refine rq_st 35 rfl rfl ?_
        have q := ih (kk + 1)
        first
          | (rw [ldS_y h67] at q; exact q _ _ _ (by omega) hK4 hl4 (hs2.tr (hs4.mono (fun a h => Or.inl (by omega)))))
          | (rw [ldS_n h67] at q; exact q _ _ _ (by omega) hK2 hl2 hs2)
      · dsimp only [cN] at h67
        replace h67 := Classical.byContradiction h67
        refine rq_st 71 rfl rfl ?_
        refine rq_st 73 rfl rfl ?_
        refine rq_callq [_, _] _ 76 rfl rfl rfl rfl rfl (Nat.le_of_ble_eq_true rfl) (cats rfl) (rcv_s rfl hl2.1) (p_X1_learn (d + 2) hl2 hK2 ((ls s).getD kk 0 / 24) (by omega)) rfl (fun v8 G4 hv8 => ?_)
        obtain ⟨rfl, hs4, hl4⟩ := hv8
        have hK4 := clK_up hK2 (e := (ls s).getD kk 0 / 24) (by omega)
        refine rq_incN 79 _ rfl rfl (nI_1 _) rfl rfl ?_
        refine rq_incN 82 _ rfl rfl (nI_1 _) rfl rfl ?_
        refine rq_st 35 rfl rfl ?_
        have q := ih (kk + 1)
        first
          | (rw [ldS_y h67] at q; exact q _ _ _ (by omega) hK4 hl4 (hs2.tr (hs4.mono (fun a h => Or.inl (by omega)))))
          | (rw [ldS_n h67] at q; exact q _ _ _ (by omega) hK2 hl2 hs2)
  refine rq_st 1 rfl rfl ?_
  refine rq_call [_] _ 4 rfl rfl rfl rfl rfl (Nat.le_of_ble_eq_true rfl) (cats rfl) (rcv_n rfl) (p_reqClinic_y (d + 2) ⟨c, hc, rfl⟩ _) rfl ?_
  refine rq_st 5 rfl rfl ?_
  refine rq_call [_] _ 8 rfl rfl rfl rfl rfl (Nat.le_of_ble_eq_true rfl) (cats rfl) (rcv_n rfl) (p_reqStick_y (d + 2) ⟨s, hs3, rfl⟩ _) rfl ?_
  refine rq_st 9 rfl rfl ?_
  refine rq_getf 12 rfl hx rfl rfl ?_
  refine rq_st 13 rfl rfl ?_
  refine rq_aalN 14 rfl hf7 (by omega) (by decide) (hf7b c hc) rfl ?_
  refine rq_st 15 rfl rfl ?_
  refine rq_st 16 rfl rfl ?_
  refine rq_getf 19 rfl hx rfl rfl ?_
  refine rq_st 20 rfl rfl ?_
  refine rq_aalN 21 rfl hf32 (by omega) (by decide) (hf32b s hs3) rfl ?_
  refine rq_st 23 rfl rfl ?_
  refine rq_st 24 rfl rfl ?_
  refine rq_st 26 rfl rfl ?_
  refine rq_callq [_, _] _ 29 rfl rfl rfl rfl rfl (Nat.le_of_ble_eq_true rfl) (cats rfl) (rcv_n rfl) (p_X6_hearWriter d hl0 hH0 hc hk0 hst1.2.1 hsk.1 (fun e he => ⟨hW e he, (hsk.2.2.1 e he).2⟩) (fun k hk q => by omega)) rfl (fun v9 G3 hv9 => ?_)
  obtain ⟨rfl, hs9, Hd9, hl9, hH9⟩ := hv9
  refine rq_ic 30 (nI 0) rfl (by decide) rfl ?_
  refine rq_st 32 rfl rfl ?_
  refine rq_ic 33 (nI 0) rfl (by decide) rfl ?_
  refine rq_st 35 rfl rfl ?_
  exact loop Hd9 hH9 (rdN (w s) (my s)) 0 Kn0 G3 _ (by omega) hK0 hl9 (hs9.mono (fun a h => Or.inr (by omega)))
