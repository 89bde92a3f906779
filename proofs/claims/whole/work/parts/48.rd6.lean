/-! the class: a call that reads and leaves the heap as it was -/
def rd6 (G : ma_G) (Pv : Int32 → Prop) (r : Option Value) (G' : ma_G) : Prop := G' = G ∧ ∃ v, r = some (.int v) ∧ Pv v
theorem p_X6_lotList (d : Nat) {G : ma_G} {A : Nat → Nat → Int32} {n : Nat → Nat} {kn : Nat → Nat → Nat} {hr : Nat → Nat → Nat → Nat} (hR : cRd A n kn hr G) (hk : mKn A n kn) (c lot i : Int32) : Cq (d + 4) 20 [.ref 1, .int c, .int lot, .int i] G (rd6 G (llP A kn c lot i)) := by
  refine cq_of rfl ?_
  have loop : ∀ cc, cc < 4 → inN lot 10 → ∀ (m p n1 : Nat), p + m = 12 → n1 ≤ p → lfN (loE A kn cc lot) i 12 0 0 = lfN (loE A kn cc lot) i m p n1 → Rq (d + 3) M_X6_lotList 26 [some (.ref 1), some (.int (nI cc)), some (.int lot), some (.int i), some (.int (nI n1)), some (.int (nI p))] [] G (Qr (rd6 G (llP A kn (nI cc) lot i))) := by
    intro cc hc hlot m
    induction m with
    | zero =>
      intro p n1 hp hn1 hv
      refine rq_st 28 rfl rfl ?_
      refine rq_bp 30 (nI 12) rfl (by decide) rfl ?_
      refine rq_cmpt rfl ((ma_cmpN (by omega) (by omega)).mpr (by show 12 ≤ p; omega)) ?_
      refine rq_ic 63 (-1) rfl (by decide) rfl ?_
      exact rq_iret rfl rfl rfl ⟨rfl, _, rfl, Or.inr ⟨cc, hc, rfl, hlot, hv.symm⟩⟩
    | succ m ih =>
      intro p n1 hp hn1 hv
      refine rq_st 28 rfl rfl ?_
      refine rq_bp 30 (nI 12) rfl (by decide) rfl ?_
      refine rq_cmpf 33 rfl rfl (by rw [← Bool.not_eq_true, ma_cmpN (by omega) (by omega)]; show ¬ 12 ≤ p; omega) ?_
      refine rq_st 34 rfl rfl ?_
      refine rq_st 35 rfl rfl ?_
      refine rq_st 37 rfl rfl ?_
      refine rq_st 38 rfl rfl ?_
      refine rq_call [_, _, _, _] _ 41 rfl rfl rfl rfl rfl (Nat.le_of_ble_eq_true rfl) (cats rfl) (rcv_s rfl hR.1.1) (p_X6_hasUnstruckDose d hR hk cc hc p lot) rfl ?_
      refine rq_ifB 44 rfl rfl (fun h41 => ?_) (fun h41 => ?_)
      · skip
        refine rq_incN 59 _ rfl rfl (nI_1 _) rfl rfl ?_
        refine rq_st 26 rfl rfl ?_
        first
          | exact ih (p + 1) (n1 + 1) (by omega) (by omega) (by rw [hv, lfN_g (P := loE A kn cc lot) h41 h47])
          | exact ih (p + 1) n1 (by omega) (by omega) (by rw [hv, lfN_n (P := loE A kn cc lot) h41])
      · skip
        refine rq_st 46 rfl rfl ?_
        refine rq_st 47 rfl rfl ?_
        refine rq_cmpI 50 rfl rfl (fun h47 => ?_) (fun h47 => ?_)
        · dsimp only [cI] at h47
          skip
          refine rq_incN 56 _ rfl rfl (nI_1 _) rfl rfl ?_
          refine rq_incN 59 _ rfl rfl (nI_1 _) rfl rfl ?_
          refine rq_st 26 rfl rfl ?_
          first
            | exact ih (p + 1) (n1 + 1) (by omega) (by omega) (by rw [hv, lfN_g (P := loE A kn cc lot) h41 h47])
            | exact ih (p + 1) n1 (by omega) (by omega) (by rw [hv, lfN_n (P := loE A kn cc lot) h41])
        · dsimp only [cI] at h47
          refine rq_st 52 rfl rfl ?_
          exact rq_iret rfl rfl rfl ⟨rfl, _, rfl, Or.inr ⟨cc, hc, rfl, hlot, by rw [hv, lfN_y (P := loE A kn cc lot) h41 (Classical.byContradiction h47)]⟩⟩
  refine rq_st 1 rfl rfl ?_
  refine rq_call [_] _ 4 rfl rfl rfl rfl rfl (Nat.le_of_ble_eq_true rfl) (cats rfl) (rcv_n rfl) (p_X6_isClinic (d + 2) _ _) rfl ?_
  refine rq_ifB 7 rfl rfl (fun h4 => ?_) (fun h4 => ?_)
  · skip
    have hz : llP A kn c lot i (-1) := Or.inl ⟨fun q => h4 q.1, rfl⟩
    refine rq_ic 19 (-1) rfl (by decide) rfl ?_
    exact rq_iret rfl rfl rfl ⟨rfl, _, rfl, hz⟩
  · skip
    refine rq_st 8 rfl rfl ?_
    refine rq_call [_] _ 11 rfl rfl rfl rfl rfl (Nat.le_of_ble_eq_true rfl) (cats rfl) (rcv_n rfl) (p_X6_isLot (d + 2) _ _) rfl ?_
    refine rq_ifB 14 rfl rfl (fun h11 => ?_) (fun h11 => ?_)
    · skip
      have hz : llP A kn c lot i (-1) := Or.inl ⟨fun q => h11 q.2, rfl⟩
      refine rq_ic 19 (-1) rfl (by decide) rfl ?_
      exact rq_iret rfl rfl rfl ⟨rfl, _, rfl, hz⟩
    · skip
      refine rq_st 15 rfl rfl ?_
      refine rq_ifI 18 rfl rfl (fun h15 => ?_) (fun h15 => ?_)
      · dsimp only [cI] at h15
        obtain ⟨cc, hc, rfl⟩ := h4
        have hlot := h11
        refine rq_ic 21 (nI 0) rfl (by decide) rfl ?_
        refine rq_st 23 rfl rfl ?_
        refine rq_ic 24 (nI 0) rfl (by decide) rfl ?_
        refine rq_st 26 rfl rfl ?_
        exact loop cc hc hlot 12 0 0 (by omega) (by omega) rfl
      · dsimp only [cI] at h15
        obtain ⟨cc, hc, rfl⟩ := h4
        have hz : llP A kn (nI cc) lot i (-1) := Or.inr ⟨cc, hc, rfl, h11, (lfN_lo (Int32.not_le.mp h15) 12 0 0 (by decide)).symm⟩
        refine rq_ic 19 (-1) rfl (by decide) rfl ?_
        exact rq_iret rfl rfl rfl ⟨rfl, _, rfl, hz⟩
theorem p_X6_known (d : Nat) {G : ma_G} {A : Nat → Nat → Int32} {n : Nat → Nat} {kn : Nat → Nat → Nat} {hr : Nat → Nat → Nat → Nat} (hR : cRd A n kn hr G) (hk : mKn A n kn) (c e : Int32) : Cq (d + 3) 12 [.ref 1, .int c, .int e] G (rd6 G (knP A c e)) := by
  refine cq_of rfl ?_
  obtain ⟨⟨hx, ⟨f2, hf2, hf2b⟩, ⟨f6, hf6, hf6b⟩, ⟨f7, hf7, hf7b⟩, ⟨f32, hf32, hf32b⟩⟩, hbk, hcl⟩ := hR
  refine rq_st 1 rfl rfl ?_
  refine rq_call [_] _ 4 rfl rfl rfl rfl rfl (Nat.le_of_ble_eq_true rfl) (cats rfl) (rcv_n rfl) (p_X6_isClinic (d + 1) _ _) rfl ?_
  refine rq_ifB 7 rfl rfl (fun h4 => ?_) (fun h4 => ?_)
  · skip
    have hz : ¬ (inN c 4 ∧ inN e 4) := fun q => h4 q.1
    refine rq_ic 15 (-1) rfl (by decide) rfl ?_
    exact rq_iret rfl rfl rfl ⟨rfl, _, rfl, Or.inl ⟨hz, rfl⟩⟩
  · skip
    refine rq_st 8 rfl rfl ?_
    refine rq_call [_] _ 11 rfl rfl rfl rfl rfl (Nat.le_of_ble_eq_true rfl) (cats rfl) (rcv_n rfl) (p_X6_isClinic (d + 1) _ _) rfl ?_
    refine rq_ifnB 14 rfl rfl (fun h11 => ?_) (fun h11 => ?_)
    · skip
      obtain ⟨cc, hc, rfl⟩ := h4
      obtain ⟨ee, he, rfl⟩ := h11
      obtain ⟨Kn, Hd, hl, hK, hH⟩ := hcl cc hc
      refine rq_st 17 rfl rfl ?_
      refine rq_getf 20 rfl hx rfl rfl ?_
      refine rq_st 21 rfl rfl ?_
      refine rq_aalN 22 rfl hf7 (by omega) (by decide) (hf7b cc hc) rfl ?_
      refine rq_st 23 rfl rfl ?_
      refine rq_call [_, _] _ 26 rfl rfl rfl rfl rfl (Nat.le_of_ble_eq_true rfl) (cats rfl) (rcv_s rfl hl.1) (p_X1_knows d hl hK ee he) rfl ?_
      exact rq_iret rfl rfl rfl ⟨rfl, _, rfl, Or.inr ⟨cc, ee, hc, he, rfl, rfl, (hk.2 cc ee hc he).1.symm⟩⟩
    · skip
      have hz : ¬ (inN c 4 ∧ inN e 4) := fun q => h11 q.2
      refine rq_ic 15 (-1) rfl (by decide) rfl ?_
      exact rq_iret rfl rfl rfl ⟨rfl, _, rfl, Or.inl ⟨hz, rfl⟩⟩
theorem p_X6_heard (d : Nat) {G : ma_G} {A : Nat → Nat → Int32} {n : Nat → Nat} {kn : Nat → Nat → Nat} {hr : Nat → Nat → Nat → Nat} (hR : cRd A n kn hr G) (hk : mKn A n kn) (hh : mHr A hr) (c b e : Int32) : Cq (d + 3) 15 [.ref 1, .int c, .int b, .int e] G (rd6 G (heP A c b e)) := by
  refine cq_of rfl ?_
  obtain ⟨⟨hx, ⟨f2, hf2, hf2b⟩, ⟨f6, hf6, hf6b⟩, ⟨f7, hf7, hf7b⟩, ⟨f32, hf32, hf32b⟩⟩, hbk, hcl⟩ := hR
  refine rq_st 1 rfl rfl ?_
  refine rq_call [_] _ 4 rfl rfl rfl rfl rfl (Nat.le_of_ble_eq_true rfl) (cats rfl) (rcv_n rfl) (p_X6_isClinic (d + 1) _ _) rfl ?_
  refine rq_ifB 7 rfl rfl (fun h4 => ?_) (fun h4 => ?_)
  · skip
    have hz : ¬ (inN c 4 ∧ inN b 4 ∧ inN e 4 ∧ ¬ c = b) := fun q => h4 q.1
    refine rq_ic 27 (-1) rfl (by decide) rfl ?_
    exact rq_iret rfl rfl rfl ⟨rfl, _, rfl, Or.inl ⟨hz, rfl⟩⟩
  · skip
    refine rq_st 8 rfl rfl ?_
    refine rq_call [_] _ 11 rfl rfl rfl rfl rfl (Nat.le_of_ble_eq_true rfl) (cats rfl) (rcv_n rfl) (p_X6_isClinic (d + 1) _ _) rfl ?_
    refine rq_ifB 14 rfl rfl (fun h11 => ?_) (fun h11 => ?_)
    · skip
      have hz : ¬ (inN c 4 ∧ inN b 4 ∧ inN e 4 ∧ ¬ c = b) := fun q => h11 q.2.1
      refine rq_ic 27 (-1) rfl (by decide) rfl ?_
      exact rq_iret rfl rfl rfl ⟨rfl, _, rfl, Or.inl ⟨hz, rfl⟩⟩
    · skip
      refine rq_st 15 rfl rfl ?_
      refine rq_call [_] _ 18 rfl rfl rfl rfl rfl (Nat.le_of_ble_eq_true rfl) (cats rfl) (rcv_n rfl) (p_X6_isClinic (d + 1) _ _) rfl ?_
      refine rq_ifB 21 rfl rfl (fun h18 => ?_) (fun h18 => ?_)
      · skip
        have hz : ¬ (inN c 4 ∧ inN b 4 ∧ inN e 4 ∧ ¬ c = b) := fun q => h18 q.2.2.1
        refine rq_ic 27 (-1) rfl (by decide) rfl ?_
        exact rq_iret rfl rfl rfl ⟨rfl, _, rfl, Or.inl ⟨hz, rfl⟩⟩
      · skip
        refine rq_st 22 rfl rfl ?_
        refine rq_st 23 rfl rfl ?_
        refine rq_cmpI 26 rfl rfl (fun h23 => ?_) (fun h23 => ?_)
        · dsimp only [cI] at h23
          obtain ⟨cc, hc, rfl⟩ := h4
          obtain ⟨bb, hb, rfl⟩ := h11
          obtain ⟨ee, he, rfl⟩ := h18
          obtain ⟨Kn, Hd, hl, hK, hH⟩ := hcl cc hc
          refine rq_st 29 rfl rfl ?_
          refine rq_getf 32 rfl hx rfl rfl ?_
          refine rq_st 33 rfl rfl ?_
          refine rq_aalN 34 rfl hf7 (by omega) (by decide) (hf7b cc hc) rfl ?_
          refine rq_st 35 rfl rfl ?_
          refine rq_st 36 rfl rfl ?_
          refine rq_call [_, _, _] _ 39 rfl rfl rfl rfl rfl (Nat.le_of_ble_eq_true rfl) (cats rfl) (rcv_s rfl hl.1) (p_X1_heardOf d hl hH bb hb ee he) rfl ?_
          exact rq_iret rfl rfl rfl ⟨rfl, _, rfl, Or.inr ⟨cc, bb, ee, hc, hb, he, fun q => h23 (by rw [q]), rfl, rfl, rfl, (hh cc bb ee hc hb he).1.symm⟩⟩
        · dsimp only [cI] at h23
          have hz : ¬ (inN c 4 ∧ inN b 4 ∧ inN e 4 ∧ ¬ c = b) := fun q => h23 q.2.2.2
          refine rq_ic 27 (-1) rfl (by decide) rfl ?_
          exact rq_iret rfl rfl rfl ⟨rfl, _, rfl, Or.inl ⟨hz, rfl⟩⟩
theorem p_X6_entry (d : Nat) {G : ma_G} {A : Nat → Nat → Int32} {n : Nat → Nat} {kn : Nat → Nat → Nat} {hr : Nat → Nat → Nat → Nat} (hR : cRd A n kn hr G) (hk : mKn A n kn) (c e i w : Int32) : Cq (d + 3) 17 [.ref 1, .int c, .int e, .int i, .int w] G (rd6 G (enP A kn c e i w)) := by
  refine cq_of rfl ?_
  obtain ⟨⟨hx, ⟨f2, hf2, hf2b⟩, ⟨f6, hf6, hf6b⟩, ⟨f7, hf7, hf7b⟩, ⟨f32, hf32, hf32b⟩⟩, hbk, hcl⟩ := hR
  refine rq_st 1 rfl rfl ?_
  refine rq_call [_] _ 4 rfl rfl rfl rfl rfl (Nat.le_of_ble_eq_true rfl) (cats rfl) (rcv_n rfl) (p_X6_isClinic (d + 1) _ _) rfl ?_
  refine rq_ifB 7 rfl rfl (fun h4 => ?_) (fun h4 => ?_)
  · skip
    have hz : ¬ (inN c 4 ∧ inN e 4 ∧ inN w 5) := fun q => h4 q.1
    refine rq_ic 26 (-1) rfl (by decide) rfl ?_
    exact rq_iret rfl rfl rfl ⟨rfl, _, rfl, Or.inl ⟨Or.inl hz, rfl⟩⟩
  · skip
    refine rq_st 8 rfl rfl ?_
    refine rq_call [_] _ 11 rfl rfl rfl rfl rfl (Nat.le_of_ble_eq_true rfl) (cats rfl) (rcv_n rfl) (p_X6_isClinic (d + 1) _ _) rfl ?_
    refine rq_ifB 14 rfl rfl (fun h11 => ?_) (fun h11 => ?_)
    · skip
      have hz : ¬ (inN c 4 ∧ inN e 4 ∧ inN w 5) := fun q => h11 q.2.1
      refine rq_ic 26 (-1) rfl (by decide) rfl ?_
      exact rq_iret rfl rfl rfl ⟨rfl, _, rfl, Or.inl ⟨Or.inl hz, rfl⟩⟩
    · skip
      refine rq_st 16 rfl rfl ?_
      refine rq_ifI 19 rfl rfl (fun h16 => ?_) (fun h16 => ?_)
      · dsimp only [cI] at h16
        have hz : ¬ (inN c 4 ∧ inN e 4 ∧ inN w 5) := fun q => inN_lo (by decide) h16 q.2.2
        refine rq_ic 26 (-1) rfl (by decide) rfl ?_
        exact rq_iret rfl rfl rfl ⟨rfl, _, rfl, Or.inl ⟨Or.inl hz, rfl⟩⟩
      · dsimp only [cI] at h16
        refine rq_st 21 rfl rfl ?_
        refine rq_ic 22 (nI 4) rfl (by decide) rfl ?_
        refine rq_cmpI 25 rfl rfl (fun h22 => ?_) (fun h22 => ?_)
        · dsimp only [cI] at h22
          obtain ⟨y, hy, rfl⟩ : inN w 5 := inN_le (n := 4) (by decide) h16 (Int32.not_lt.mpr h22)
          obtain ⟨cc, hc, rfl⟩ := h4
          obtain ⟨ee, he, rfl⟩ := h11
          obtain ⟨Kn, Hd, hl, hK, hH⟩ := hcl cc hc
          obtain ⟨K, N, hb, hA⟩ := hbk ee he
          have hkn := hk.2 cc ee hc he
          have hn24 := (hk.1 ee he).2
          refine rq_st 28 rfl rfl ?_
          refine rq_ifI 31 rfl rfl (fun h28 => ?_) (fun h28 => ?_)
          · dsimp only [cI] at h28
            have hz2 : ∃ p q, p < 4 ∧ q < 4 ∧ nI cc = nI p ∧ nI ee = nI q ∧ ¬ inN i (kn p q) := ⟨cc, ee, hc, he, rfl, rfl, inN_lo (by omega) h28⟩
            refine rq_ic 46 (-1) rfl (by decide) rfl ?_
            exact rq_iret rfl rfl rfl ⟨rfl, _, rfl, Or.inl ⟨Or.inr hz2, rfl⟩⟩
          · dsimp only [cI] at h28
            refine rq_st 32 rfl rfl ?_
            refine rq_st 33 rfl rfl ?_
            refine rq_getf 36 rfl hx rfl rfl ?_
            refine rq_st 37 rfl rfl ?_
            refine rq_aalN 38 rfl hf7 (by omega) (by decide) (hf7b cc hc) rfl ?_
            refine rq_st 39 rfl rfl ?_
            refine rq_call [_, _] _ 42 rfl rfl rfl rfl rfl (Nat.le_of_ble_eq_true rfl) (cats rfl) (rcv_s rfl hl.1) (p_X1_knows d hl hK ee he) rfl ?_
            refine rq_cmpI 45 rfl rfl (fun h42 => ?_) (fun h42 => ?_)
            · dsimp only [cI] at h42
              obtain ⟨x, hx2, rfl⟩ : inN i (kn cc ee) := inN_of (by omega) h28 (Int32.not_le.mpr h42)
              refine rq_st 49 rfl rfl ?_
              refine rq_ifN 52 rfl rfl (by omega) (fun h49 => ?_) (fun h49 => ?_)
              · dsimp only [cN] at h49
                obtain ⟨y, rfl⟩ : ∃ y1, y = y1 + 1 := ⟨y - 1, by omega⟩
                refine rq_st 66 rfl rfl ?_
                refine rq_getf 69 rfl hx rfl rfl ?_
                refine rq_st 70 rfl rfl ?_
                refine rq_aalN 71 rfl hf6 (by omega) (by decide) (hf6b ee he) rfl ?_
                refine rq_st 72 rfl rfl ?_
                refine rq_st 74 rfl rfl ?_
                refine rq_call [_, _, _] _ 77 rfl rfl rfl rfl rfl (Nat.le_of_ble_eq_true rfl) (cats rfl) (rcv_s rfl hb.1) (p_X0_numberOf (d + 1) hb hn24 hA x (by omega) y (by omega)) rfl ?_
                exact rq_iret rfl rfl rfl (by first | exact ⟨rfl, _, rfl, Or.inr ⟨cc, ee, x, 0, hc, he, hx2, by decide, rfl, rfl, rfl, rfl, (if_pos rfl).symm⟩⟩ | exact ⟨rfl, _, rfl, Or.inr ⟨cc, ee, x, y + 1, hc, he, hx2, hy, rfl, rfl, rfl, rfl, by rw [if_neg (by omega)]; rfl⟩⟩)
              · dsimp only [cN] at h49
                obtain rfl : y = 0 := by omega
                refine rq_st 53 rfl rfl ?_
                refine rq_getf 56 rfl hx rfl rfl ?_
                refine rq_st 57 rfl rfl ?_
                refine rq_aalN 58 rfl hf6 (by omega) (by decide) (hf6b ee he) rfl ?_
                refine rq_st 59 rfl rfl ?_
                refine rq_call [_, _] _ 62 rfl rfl rfl rfl rfl (Nat.le_of_ble_eq_true rfl) (cats rfl) (rcv_s rfl hb.1) (p_X0_kindN (d + 1) hb hn24 hA x (by omega)) rfl ?_
                refine rq_st 77 rfl rfl ?_
                exact rq_iret rfl rfl rfl (by first | exact ⟨rfl, _, rfl, Or.inr ⟨cc, ee, x, 0, hc, he, hx2, by decide, rfl, rfl, rfl, rfl, (if_pos rfl).symm⟩⟩ | exact ⟨rfl, _, rfl, Or.inr ⟨cc, ee, x, y + 1, hc, he, hx2, hy, rfl, rfl, rfl, rfl, by rw [if_neg (by omega)]; rfl⟩⟩)
            · dsimp only [cI] at h42
              have hz2 : ∃ p q, p < 4 ∧ q < 4 ∧ nI cc = nI p ∧ nI ee = nI q ∧ ¬ inN i (kn p q) := ⟨cc, ee, hc, he, rfl, rfl, inN_hi (by omega) (Int32.not_lt.mp h42)⟩
              refine rq_ic 46 (-1) rfl (by decide) rfl ?_
              exact rq_iret rfl rfl rfl ⟨rfl, _, rfl, Or.inl ⟨Or.inr hz2, rfl⟩⟩
        · dsimp only [cI] at h22
          have hz : ¬ (inN c 4 ∧ inN e 4 ∧ inN w 5) := fun q => inN_gt (n := 4) (by decide) (Int32.not_le.mp h22) q.2.2
          refine rq_ic 26 (-1) rfl (by decide) rfl ?_
          exact rq_iret rfl rfl rfl ⟨rfl, _, rfl, Or.inl ⟨Or.inl hz, rfl⟩⟩
theorem sw_def {df lo hi : Int} {offs : Array Int} {aux pc : Nat} {L : ma_L} {S : List Value} {G : ma_G} {a : Int32} (h : a.toInt < lo ∨ hi < a.toInt) : ma_step (.tableswitch df lo hi offs) aux pc L (.int a :: S) G = some (ma_tgt pc df, L, S, G) := by simp only [ma_step, if_pos h]
theorem inN_int {x : Int32} {n : Nat} (h1 : 0 ≤ x.toInt) (h2 : x.toInt < n) : inN x n := by
  refine ⟨x.toInt.toNat, by omega, ?_⟩
  have : x.toInt < 2 ^ 31 := Int32.toInt_lt x
  rw [← Int32.toInt_inj, nI_toInt (by omega)]
  omega
theorem p_X6_stick (d : Nat) {G : ma_G} {A : Nat → Nat → Int32} (hsh : shp G) {w my wr : Nat → Nat} {sy : Nat → Nat → Nat} {ls : Nat → List Nat} (hS : cSt w my wr sy ls G) (hst : mSt A w my) (hw8 : ∀ s, s < 3 → A 8 s = nI (wr s)) (s x : Int32) : Cq (d + 3) 7 [.ref 1, .int s, .int x] G (rd6 G (stP A w my s x)) := by
  refine cq_of rfl ?_
  obtain ⟨hx, ⟨f2, hf2, hf2b⟩, ⟨f6, hf6, hf6b⟩, ⟨f7, hf7, hf7b⟩, ⟨f32, hf32, hf32b⟩⟩ := hsh
  refine rq_st 1 rfl rfl ?_
  refine rq_call [_] _ 4 rfl rfl rfl rfl rfl (Nat.le_of_ble_eq_true rfl) (cats rfl) (rcv_n rfl) (p_X6_isStick (d + 1) _ _) rfl ?_
  refine rq_ifnB 7 rfl rfl (fun h4 => ?_) (fun h4 => ?_)
  · skip
    obtain ⟨p, hp, rfl⟩ := h4
    obtain ⟨Wk, B, E, hs, hw2, hB, hE⟩ := hS p hp
    have hst1 := hst p hp
    have hwr := hw8 p hp
    refine rq_st 10 rfl rfl ?_
    by_cases hx3 : inN x 3
    · obtain ⟨y, hy, rfl⟩ := hx3
      rcases (show y = 0 ∨ y = 1 ∨ y = 2 by omega) with rfl | rfl | rfl
      · refine rq_st 36 rfl rfl ?_
        refine rq_st 37 rfl rfl ?_
        refine rq_getf 40 rfl hx rfl rfl ?_
        refine rq_st 41 rfl rfl ?_
        refine rq_aalN 42 rfl hf32 (by omega) (by decide) (hf32b p hp) rfl ?_
        refine rq_call [_] _ 45 rfl rfl rfl rfl rfl (Nat.le_of_ble_eq_true rfl) (cats rfl) (rcv_s rfl hs.1) (p_X5_wholePages (d + 1) hs) rfl ?_
        exact rq_iret rfl rfl rfl ⟨rfl, _, rfl, Or.inr ⟨p, 0, hp, by decide, rfl, rfl, rfl⟩⟩
      · refine rq_st 46 rfl rfl ?_
        refine rq_st 47 rfl rfl ?_
        refine rq_getf 50 rfl hx rfl rfl ?_
        refine rq_st 51 rfl rfl ?_
        refine rq_aalN 52 rfl hf32 (by omega) (by decide) (hf32b p hp) rfl ?_
        refine rq_call [_] _ 55 rfl rfl rfl rfl rfl (Nat.le_of_ble_eq_true rfl) (cats rfl) (rcv_s rfl hs.1) (p_X5_writer (d + 1) hs hst1.2.1) rfl ?_
        exact rq_iret rfl rfl rfl ⟨rfl, _, rfl, Or.inr ⟨p, 1, hp, by decide, rfl, rfl, by rw [hwr]; rfl⟩⟩
      · refine rq_st 56 rfl rfl ?_
        refine rq_st 57 rfl rfl ?_
        refine rq_getf 60 rfl hx rfl rfl ?_
        refine rq_st 61 rfl rfl ?_
        refine rq_aalN 62 rfl hf32 (by omega) (by decide) (hf32b p hp) rfl ?_
        refine rq_call [_] _ 65 rfl rfl rfl rfl rfl (Nat.le_of_ble_eq_true rfl) (cats rfl) (rcv_s rfl hs.1) (p_X5_entryCount (d + 1) hs) rfl ?_
        exact rq_iret rfl rfl rfl ⟨rfl, _, rfl, Or.inr ⟨p, 2, hp, by decide, rfl, rfl, by rw [if_neg (by decide), if_pos rfl]⟩⟩
    · have hz : ¬ (inN (nI p) 3 ∧ inN x 3) := fun q => hx3 q.2
      have hsw : x.toInt < 0 ∨ 2 < x.toInt := Classical.byContradiction fun q => hx3 (inN_int (n := 3) (by omega) (by omega))
      refine rq_st 66 rfl (sw_def hsw) ?_
      refine rq_ic 67 (-1) rfl (by decide) rfl ?_
      exact rq_iret rfl rfl rfl ⟨rfl, _, rfl, Or.inl ⟨hz, rfl⟩⟩
  · skip
    have hz : ¬ (inN s 3 ∧ inN x 3) := fun q => h4 q.1
    refine rq_ic 8 (-1) rfl (by decide) rfl ?_
    exact rq_iret rfl rfl rfl ⟨rfl, _, rfl, Or.inl ⟨hz, rfl⟩⟩
