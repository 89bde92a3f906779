/-! the class: a book -/
def bk (G : ma_G) (a : Nat) (K N : Nat → Int32) (n : Nat) : Prop := ma_obj G a 0 = some [.ref (a + 1), .ref (a + 2), .int (nI n)] ∧ ma_ints G (a + 1) = some (24, K) ∧ ma_ints G (a + 2) = some (96, N)
def bkA (A : Nat → Nat → Int32) (c n : Nat) (K N : Nat → Int32) : Prop := ∀ j, j < n → K j = A 3 (24 * c + j) ∧ ∀ w, w < 4 → N (4 * j + w) = A 4 (4 * (24 * c + j) + w)
noncomputable def kdv (f : Nat → Int32) (n : Nat) (i : Int32) : Int32 := @ite _ (inN i n) (Classical.propDecidable _) (f i.toNatClampNeg) (nI 0)
theorem kdv_N {f : Nat → Int32} {n j : Nat} (hj : j < n) (hn : n ≤ 24) : kdv f n (nI j) = f j := by
  unfold kdv
  rw [if_pos ⟨j, hj, rfl⟩, nI_clamp (by omega)]
theorem kdv_O {f : Nat → Int32} {n : Nat} {i : Int32} (h : ¬ inN i n) : kdv f n i = nI 0 := by
  unfold kdv
  rw [if_neg h]
theorem p_X0_size (d : Nat) {G : ma_G} {a : Nat} {K N : Nat → Int32} {n : Nat} (hb : bk G a K N n) : Ca (d + 1) 37 [.ref a] G (.inl (some (.int (nI n))), G, 0, 0) := by
  refine ca_of rfl ?_
  refine ru_st 1 rfl rfl ?_
  refine ru_getf 4 rfl hb.1 rfl rfl ?_
  exact ru_ire rfl rfl rfl rfl
theorem p_X0_isFull (d : Nat) {G : ma_G} {a : Nat} {K N : Nat → Int32} {n : Nat} (hb : bk G a K N n) (hn : n ≤ 24) : Ca (d + 1) 45 [.ref a] G (.inl (some (.int (bI (n = 24)))), G, 0, 0) := by
  refine ca_of rfl ?_
  refine ru_st 1 rfl rfl ?_
  refine ru_getf 4 rfl hb.1 rfl rfl ?_
  refine ru_bp 6 (nI 24) rfl (by decide) rfl ?_
  refine ru_cmpN 9 rfl rfl (by omega) (by omega) (fun h6 => ?_) (fun h6 => ?_)
  · dsimp only [cN] at h6
    have hz : ¬ n = 24 := by omega
    refine ru_ic 14 (nI 0) rfl (by decide) rfl ?_
    exact ru_ire rfl rfl (by first | exact (bI_t hz).symm | exact (bI_f hz).symm) (bI_nb _)
  · dsimp only [cN] at h6
    have hz : n = 24 := by omega
    refine ru_ic 10 (nI 1) rfl (by decide) rfl ?_
    refine ru_st 14 rfl rfl ?_
    exact ru_ire rfl rfl (by first | exact (bI_t hz).symm | exact (bI_f hz).symm) (bI_nb _)
theorem p_X0_kindOf (d : Nat) {G : ma_G} {a : Nat} {K N : Nat → Int32} {n : Nat} (hb : bk G a K N n) (hn : n ≤ 24) {A : Nat → Nat → Int32} {c : Nat} (hA : bkA A c n K N) (i : Int32) : Ca (d + 1) 18 [.ref a, .int i] G (.inl (some (.int (kdv (fun j => A 3 (24 * c + j)) n i))), G, 0, 0) := by
  refine ca_of rfl ?_
  refine ru_st 1 rfl rfl ?_
  refine ru_ifI 4 rfl rfl (fun h1 => ?_) (fun h1 => ?_)
  · dsimp only [cI] at h1
    have hz : ¬ inN i n := inN_lo (by omega) h1
    refine ru_ic 22 (nI 0) rfl (by decide) rfl ?_
    exact ru_ire rfl rfl (by first | exact (kdv_O hz).symm | exact (kdv_N (f := fun j => A 3 (24 * c + j)) hj hn).symm) rfl
  · dsimp only [cI] at h1
    refine ru_st 5 rfl rfl ?_
    refine ru_st 6 rfl rfl ?_
    refine ru_getf 9 rfl hb.1 rfl rfl ?_
    refine ru_cmpI 12 rfl rfl (fun h9 => ?_) (fun h9 => ?_)
    · dsimp only [cI] at h9
      have hz : ¬ inN i n := inN_hi (by omega) h9
      refine ru_ic 22 (nI 0) rfl (by decide) rfl ?_
      exact ru_ire rfl rfl (by first | exact (kdv_O hz).symm | exact (kdv_N (f := fun j => A 3 (24 * c + j)) hj hn).symm) rfl
    · dsimp only [cI] at h9
      obtain ⟨j, hj, rfl⟩ := inN_of (by omega) h1 h9
      refine ru_st 13 rfl rfl ?_
      refine ru_getf 16 rfl hb.1 rfl rfl ?_
      refine ru_st 17 rfl rfl ?_
      refine ru_ialN 18 rfl hb.2.1 (by omega) (by decide) rfl ?_
      rw [(hA j hj).1]
      refine ru_st 22 rfl rfl ?_
      exact ru_ire rfl rfl (by first | exact (kdv_O hz).symm | exact (kdv_N (f := fun j => A 3 (24 * c + j)) hj hn).symm) rfl
theorem p_X0_kindN (d : Nat) {G : ma_G} {a : Nat} {K N : Nat → Int32} {n : Nat} (hb : bk G a K N n) (hn : n ≤ 24) {A : Nat → Nat → Int32} {c : Nat} (hA : bkA A c n K N) (j : Nat) (hj : j < n) : Ca (d + 1) 18 [.ref a, .int (nI j)] G (.inl (some (.int (A 3 (24 * c + j)))), G, 0, 0) := by
  have h := p_X0_kindOf d hb hn hA (nI j)
  rw [kdv_N hj hn] at h
  exact h
theorem p_X0_numberOf (d : Nat) {G : ma_G} {a : Nat} {K N : Nat → Int32} {n : Nat} (hb : bk G a K N n) (hn : n ≤ 24) {A : Nat → Nat → Int32} {c : Nat} (hA : bkA A c n K N) (j : Nat) (hj : j < n) (y : Nat) (hy : y < 4) : Ca (d + 1) 19 [.ref a, .int (nI j), .int (nI (y + 1))] G (.inl (some (.int (A 4 (4 * (24 * c + j) + y)))), G, 0, 0) := by
  refine ca_of rfl ?_
  refine ru_st 1 rfl rfl ?_
  refine ru_iff 4 rfl rfl (by rw [← Bool.not_eq_true, ma_ifN (by omega)]; show ¬ j < 0; omega) ?_
  refine ru_st 5 rfl rfl ?_
  refine ru_st 6 rfl rfl ?_
  refine ru_getf 9 rfl hb.1 rfl rfl ?_
  refine ru_cmpf 12 rfl rfl (by rw [← Bool.not_eq_true, ma_cmpN (by omega) (by omega)]; show ¬ n ≤ j; omega) ?_
  refine ru_st 13 rfl rfl ?_
  refine ru_ic 14 (nI 1) rfl (by decide) rfl ?_
  refine ru_cmpf 17 rfl rfl (by rw [← Bool.not_eq_true, ma_cmpN (by omega) (by omega)]; show ¬ y + 1 < 1; omega) ?_
  refine ru_st 18 rfl rfl ?_
  refine ru_ic 19 (nI 4) rfl (by decide) rfl ?_
  refine ru_cmpt rfl ((ma_cmpN (by omega) (by omega)).mpr (by show y + 1 ≤ 4; omega)) ?_
  refine ru_st 25 rfl rfl ?_
  refine ru_getf 28 rfl hb.1 rfl rfl ?_
  refine ru_st 29 rfl rfl ?_
  refine ru_ic 30 (nI 4) rfl (by decide) rfl ?_
  refine ru_mulN 31 rfl rfl ?_
  refine ru_st 32 rfl rfl ?_
  refine ru_addN 33 rfl rfl ?_
  refine ru_ic 34 (nI 1) rfl (by decide) rfl ?_
  refine ru_subN 35 rfl (by omega) rfl ?_
  refine ru_ialN 36 rfl hb.2.2 (by omega) (by decide) rfl ?_
  rw [show j * 4 + (y + 1) - 1 = 4 * j + y by omega, (hA j hj).2 y hy]
  exact ru_ire rfl rfl rfl rfl
theorem p_X0_recalls (d : Nat) {G : ma_G} {a : Nat} {K N : Nat → Int32} {n : Nat} (hb : bk G a K N n) (hn : n ≤ 24) {A : Nat → Nat → Int32} {c : Nat} (hA : bkA A c n K N) (j : Nat) (hj : j < n) (lot day : Int32) : Ca (d + 2) 82 [.ref a, .int (nI j), .int lot, .int day] G (.inl (some (.int (bI (A 3 (24 * c + j) = nI 3 ∧ A 4 (4 * (24 * c + j)) = lot ∧ A 4 (4 * (24 * c + j) + 1) ≤ day ∧ day ≤ A 4 (4 * (24 * c + j) + 2))))), G, 0, 0) := by
  refine ca_of rfl ?_
  refine ru_st 1 rfl rfl ?_
  refine ru_st 2 rfl rfl ?_
  refine ru_call [_, _] _ 5 rfl rfl rfl rfl rfl (Nat.le_of_ble_eq_true rfl) (cats rfl) (rcv_s rfl hb.1) (p_X0_kindN d hb hn hA j hj) rfl ?_
  refine ru_ic 6 (nI 3) rfl (by decide) rfl ?_
  refine ru_cmpI 9 rfl rfl (fun h6 => ?_) (fun h6 => ?_)
  · dsimp only [cI] at h6
    have hz : ¬ (A 3 (24 * c + j) = nI 3 ∧ A 4 (4 * (24 * c + j)) = lot ∧ A 4 (4 * (24 * c + j) + 1) ≤ day ∧ day ≤ A 4 (4 * (24 * c + j) + 2)) := fun q => h6 q.1
    refine ru_ic 44 (nI 0) rfl (by decide) rfl ?_
    exact ru_ire rfl rfl (by first | exact (bI_t hz).symm | exact (bI_f hz).symm) (bI_nb _)
  · dsimp only [cI] at h6
    refine ru_st 10 rfl rfl ?_
    refine ru_st 11 rfl rfl ?_
    refine ru_ic 12 (nI 1) rfl (by decide) rfl ?_
    refine ru_call [_, _, _] _ 15 rfl rfl rfl rfl rfl (Nat.le_of_ble_eq_true rfl) (cats rfl) (rcv_s rfl hb.1) (p_X0_numberOf d hb hn hA j hj 0 (by decide)) rfl ?_
    refine ru_st 16 rfl rfl ?_
    refine ru_cmpI 19 rfl rfl (fun h16 => ?_) (fun h16 => ?_)
    · dsimp only [cI] at h16
      have hz : ¬ (A 3 (24 * c + j) = nI 3 ∧ A 4 (4 * (24 * c + j)) = lot ∧ A 4 (4 * (24 * c + j) + 1) ≤ day ∧ day ≤ A 4 (4 * (24 * c + j) + 2)) := fun q => h16 q.2.1
      refine ru_ic 44 (nI 0) rfl (by decide) rfl ?_
      exact ru_ire rfl rfl (by first | exact (bI_t hz).symm | exact (bI_f hz).symm) (bI_nb _)
    · dsimp only [cI] at h16
      refine ru_st 20 rfl rfl ?_
      refine ru_st 21 rfl rfl ?_
      refine ru_ic 22 (nI 2) rfl (by decide) rfl ?_
      refine ru_call [_, _, _] _ 25 rfl rfl rfl rfl rfl (Nat.le_of_ble_eq_true rfl) (cats rfl) (rcv_s rfl hb.1) (p_X0_numberOf d hb hn hA j hj 1 (by decide)) rfl ?_
      refine ru_st 26 rfl rfl ?_
      refine ru_cmpI 29 rfl rfl (fun h26 => ?_) (fun h26 => ?_)
      · dsimp only [cI] at h26
        have hz : ¬ (A 3 (24 * c + j) = nI 3 ∧ A 4 (4 * (24 * c + j)) = lot ∧ A 4 (4 * (24 * c + j) + 1) ≤ day ∧ day ≤ A 4 (4 * (24 * c + j) + 2)) := fun q => absurd h26 (Int32.not_lt.mpr q.2.2.1)
        refine ru_ic 44 (nI 0) rfl (by decide) rfl ?_
        exact ru_ire rfl rfl (by first | exact (bI_t hz).symm | exact (bI_f hz).symm) (bI_nb _)
      · dsimp only [cI] at h26
        refine ru_st 30 rfl rfl ?_
        refine ru_st 31 rfl rfl ?_
        refine ru_st 32 rfl rfl ?_
        refine ru_ic 33 (nI 3) rfl (by decide) rfl ?_
        refine ru_call [_, _, _] _ 36 rfl rfl rfl rfl rfl (Nat.le_of_ble_eq_true rfl) (cats rfl) (rcv_s rfl hb.1) (p_X0_numberOf d hb hn hA j hj 2 (by decide)) rfl ?_
        refine ru_cmpI 39 rfl rfl (fun h36 => ?_) (fun h36 => ?_)
        · dsimp only [cI] at h36
          have hz : ¬ (A 3 (24 * c + j) = nI 3 ∧ A 4 (4 * (24 * c + j)) = lot ∧ A 4 (4 * (24 * c + j) + 1) ≤ day ∧ day ≤ A 4 (4 * (24 * c + j) + 2)) := fun q => absurd h36 (Int32.not_lt.mpr q.2.2.2)
          refine ru_ic 44 (nI 0) rfl (by decide) rfl ?_
          exact ru_ire rfl rfl (by first | exact (bI_t hz).symm | exact (bI_f hz).symm) (bI_nb _)
        · dsimp only [cI] at h36
          have hz : (A 3 (24 * c + j) = nI 3 ∧ A 4 (4 * (24 * c + j)) = lot ∧ A 4 (4 * (24 * c + j) + 1) ≤ day ∧ day ≤ A 4 (4 * (24 * c + j) + 2)) := ⟨Classical.byContradiction h6, Classical.byContradiction h16, Int32.not_lt.mp h26, Int32.not_lt.mp h36⟩
          refine ru_ic 40 (nI 1) rfl (by decide) rfl ?_
          refine ru_st 44 rfl rfl ?_
          exact ru_ire rfl rfl (by first | exact (bI_t hz).symm | exact (bI_f hz).symm) (bI_nb _)
theorem p_X0_gave (d : Nat) {G : ma_G} {a : Nat} {K N : Nat → Int32} {n : Nat} (hb : bk G a K N n) (hn : n ≤ 24) {A : Nat → Nat → Int32} {c : Nat} (hA : bkA A c n K N) (j : Nat) (hj : j < n) (p lot : Int32) : Ca (d + 2) 23 [.ref a, .int (nI j), .int p, .int lot] G (.inl (some (.int (bI (A 3 (24 * c + j) = nI 1 ∧ A 4 (4 * (24 * c + j)) = p ∧ A 4 (4 * (24 * c + j) + 2) = lot)))), G, 0, 0) := by
  refine ca_of rfl ?_
  refine ru_st 1 rfl rfl ?_
  refine ru_st 2 rfl rfl ?_
  refine ru_call [_, _] _ 5 rfl rfl rfl rfl rfl (Nat.le_of_ble_eq_true rfl) (cats rfl) (rcv_s rfl hb.1) (p_X0_kindN d hb hn hA j hj) rfl ?_
  refine ru_ic 6 (nI 1) rfl (by decide) rfl ?_
  refine ru_cmpI 9 rfl rfl (fun h6 => ?_) (fun h6 => ?_)
  · dsimp only [cI] at h6
    have hz : ¬ (A 3 (24 * c + j) = nI 1 ∧ A 4 (4 * (24 * c + j)) = p ∧ A 4 (4 * (24 * c + j) + 2) = lot) := fun q => h6 q.1
    refine ru_ic 34 (nI 0) rfl (by decide) rfl ?_
    exact ru_ire rfl rfl (by first | exact (bI_t hz).symm | exact (bI_f hz).symm) (bI_nb _)
  · dsimp only [cI] at h6
    refine ru_st 10 rfl rfl ?_
    refine ru_st 11 rfl rfl ?_
    refine ru_ic 12 (nI 1) rfl (by decide) rfl ?_
    refine ru_call [_, _, _] _ 15 rfl rfl rfl rfl rfl (Nat.le_of_ble_eq_true rfl) (cats rfl) (rcv_s rfl hb.1) (p_X0_numberOf d hb hn hA j hj 0 (by decide)) rfl ?_
    refine ru_st 16 rfl rfl ?_
    refine ru_cmpI 19 rfl rfl (fun h16 => ?_) (fun h16 => ?_)
    · dsimp only [cI] at h16
      have hz : ¬ (A 3 (24 * c + j) = nI 1 ∧ A 4 (4 * (24 * c + j)) = p ∧ A 4 (4 * (24 * c + j) + 2) = lot) := fun q => h16 q.2.1
      refine ru_ic 34 (nI 0) rfl (by decide) rfl ?_
      exact ru_ire rfl rfl (by first | exact (bI_t hz).symm | exact (bI_f hz).symm) (bI_nb _)
    · dsimp only [cI] at h16
      refine ru_st 20 rfl rfl ?_
      refine ru_st 21 rfl rfl ?_
      refine ru_ic 22 (nI 3) rfl (by decide) rfl ?_
      refine ru_call [_, _, _] _ 25 rfl rfl rfl rfl rfl (Nat.le_of_ble_eq_true rfl) (cats rfl) (rcv_s rfl hb.1) (p_X0_numberOf d hb hn hA j hj 2 (by decide)) rfl ?_
      refine ru_st 26 rfl rfl ?_
      refine ru_cmpI 29 rfl rfl (fun h26 => ?_) (fun h26 => ?_)
      · dsimp only [cI] at h26
        have hz : ¬ (A 3 (24 * c + j) = nI 1 ∧ A 4 (4 * (24 * c + j)) = p ∧ A 4 (4 * (24 * c + j) + 2) = lot) := fun q => h26 q.2.2
        refine ru_ic 34 (nI 0) rfl (by decide) rfl ?_
        exact ru_ire rfl rfl (by first | exact (bI_t hz).symm | exact (bI_f hz).symm) (bI_nb _)
      · dsimp only [cI] at h26
        have hz : (A 3 (24 * c + j) = nI 1 ∧ A 4 (4 * (24 * c + j)) = p ∧ A 4 (4 * (24 * c + j) + 2) = lot) := ⟨Classical.byContradiction h6, Classical.byContradiction h16, Classical.byContradiction h26⟩
        refine ru_ic 30 (nI 1) rfl (by decide) rfl ?_
        refine ru_st 34 rfl rfl ?_
        exact ru_ire rfl rfl (by first | exact (bI_t hz).symm | exact (bI_f hz).symm) (bI_nb _)
theorem p_X0_isStruck (d : Nat) {G : ma_G} {a : Nat} {K N : Nat → Int32} {n : Nat} (hb : bk G a K N n) (hn : n ≤ 24) {A : Nat → Nat → Int32} {c : Nat} (hA : bkA A c n K N) (i : Int32) (m : Nat) (hm : m ≤ n) : Ca (d + 2) 24 [.ref a, .int i, .int (nI m)] G (.inl (some (.int (bI (strk A c i m)))), G, 0, 0) := by
  refine ca_of rfl ?_
  have loop : ∀ (z kk : Nat), kk + z = m → ¬ strk A c i kk → Ru (d + 1) M_X0_isStruck 2 [some (.ref a), some (.int i), some (.int (nI m)), some (.int (nI kk))] [] G (.inl (some (.int (bI (strk A c i m)))), G, 0, 0) := by
    intro z
    induction z with
    | zero =>
      intro kk hk hno
      refine ru_st 3 rfl rfl ?_
      refine ru_st 4 rfl rfl ?_
      refine ru_cmpt rfl ((ma_cmpN (by omega) (by omega)).mpr (by show m ≤ kk; omega)) ?_
      refine ru_ic 44 (nI 0) rfl (by decide) rfl ?_
      exact ru_ire rfl rfl (bI_f (by rw [show m = kk by omega]; exact hno)).symm (bI_nb _)
    | succ z ih =>
      intro kk hk hno
      refine ru_st 3 rfl rfl ?_
      refine ru_st 4 rfl rfl ?_
      refine ru_cmpf 7 rfl rfl (by rw [← Bool.not_eq_true, ma_cmpN (by omega) (by omega)]; show ¬ m ≤ kk; omega) ?_
      refine ru_st 8 rfl rfl ?_
      refine ru_st 9 rfl rfl ?_
      refine ru_getf 12 rfl hb.1 rfl rfl ?_
      refine ru_cmpf 15 rfl rfl (by rw [← Bool.not_eq_true, ma_cmpN (by omega) (by omega)]; show ¬ n ≤ kk; omega) ?_
      refine ru_st 16 rfl rfl ?_
      refine ru_getf 19 rfl hb.1 rfl rfl ?_
      refine ru_st 20 rfl rfl ?_
      refine ru_ialN 21 rfl hb.2.1 (by omega) (by decide) rfl ?_
      rw [(hA kk (by omega)).1]
      refine ru_ic 22 (nI 2) rfl (by decide) rfl ?_
      refine ru_cmpI 25 rfl rfl (fun h22 => ?_) (fun h22 => ?_)
      · dsimp only [cI] at h22
        have hz : ¬ (A 3 (24 * c + kk) = nI 2 ∧ A 4 (96 * c + 4 * kk) = i) := fun q => h22 q.1
        refine ru_incN 40 _ rfl rfl (nI_1 _) rfl rfl ?_
        refine ru_st 2 rfl rfl ?_
        exact ih (kk + 1) (by omega) (fun q => (strk_s.mp q).elim hno hz)
      · dsimp only [cI] at h22
        refine ru_st 26 rfl rfl ?_
        refine ru_st 27 rfl rfl ?_
        refine ru_ic 28 (nI 1) rfl (by decide) rfl ?_
        refine ru_call [_, _, _] _ 31 rfl rfl rfl rfl rfl (Nat.le_of_ble_eq_true rfl) (cats rfl) (rcv_s rfl hb.1) (p_X0_numberOf d hb hn hA kk (by omega) 0 (by decide)) rfl ?_
        rw [show 4 * (24 * c + kk) + 0 = 96 * c + 4 * kk by omega]
        refine ru_st 32 rfl rfl ?_
        refine ru_cmpI 35 rfl rfl (fun h32 => ?_) (fun h32 => ?_)
        · dsimp only [cI] at h32
          have hz : ¬ (A 3 (24 * c + kk) = nI 2 ∧ A 4 (96 * c + 4 * kk) = i) := fun q => h32 q.2
          refine ru_incN 40 _ rfl rfl (nI_1 _) rfl rfl ?_
          refine ru_st 2 rfl rfl ?_
          exact ih (kk + 1) (by omega) (fun q => (strk_s.mp q).elim hno hz)
        · dsimp only [cI] at h32
          refine ru_ic 36 (nI 1) rfl (by decide) rfl ?_
          exact ru_ire rfl rfl (bI_t ⟨kk, by omega, Classical.byContradiction h22, Classical.byContradiction h32⟩).symm (bI_nb _)
  refine ru_ic 1 (nI 0) rfl (by decide) rfl ?_
  refine ru_st 2 rfl rfl ?_
  exact loop m 0 (by omega) strk_0
theorem p_X0_valueOf (d : Nat) {G : ma_G} {a : Nat} {K N : Nat → Int32} {n : Nat} (hb : bk G a K N n) (hn : n ≤ 24) {A : Nat → Nat → Int32} {c : Nat} (hA : bkA A c n K N) (j : Nat) (hj : j < n) : Ca (d + 2) 99 [.ref a, .int (nI j), .int (nI c)] G (.inl (some (.long (vlK A (24 * c + j) 4))), G, 0, 0) := by
  refine ca_of rfl ?_
  have loop : ∀ (z y : Nat) (u : Int64), y + z = 4 → u = vlK A (24 * c + j) y → Ru (d + 1) M_X0_valueOf 28 [some (.ref a), some (.int (nI j)), some (.int (nI c)), some (.long u), none, some (.int (nI (y + 1)))] [] G (.inl (some (.long (vlK A (24 * c + j) 4))), G, 0, 0) := by
    intro z
    induction z with
    | zero =>
      intro y u hy hu
      refine ru_st 30 rfl rfl ?_
      refine ru_ic 31 (nI 4) rfl (by decide) rfl ?_
      refine ru_cmpt rfl ((ma_cmpN (by omega) (by omega)).mpr (by show 4 < y + 1; omega)) ?_
      refine ru_st 56 rfl rfl ?_
      obtain rfl : y = 4 := by omega
      subst hu
      exact ru_lret rfl rfl
    | succ z ih =>
      intro y u hy hu
      refine ru_st 30 rfl rfl ?_
      refine ru_ic 31 (nI 4) rfl (by decide) rfl ?_
      refine ru_cmpf 34 rfl rfl (by rw [← Bool.not_eq_true, ma_cmpN (by omega) (by omega)]; show ¬ 4 < y + 1; omega) ?_
      refine ru_st 35 rfl rfl ?_
      refine ru_st 38 rfl rfl ?_
      refine ru_st 39 rfl rfl ?_
      refine ru_st 40 rfl rfl ?_
      refine ru_st 41 rfl rfl ?_
      refine ru_st 43 rfl rfl ?_
      refine ru_call [_, _, _] _ 46 rfl rfl rfl rfl rfl (Nat.le_of_ble_eq_true rfl) (cats rfl) (rcv_s rfl hb.1) (p_X0_numberOf d hb hn hA j hj y (by omega)) rfl ?_
      refine ru_st 47 rfl rfl ?_
      refine ru_st 48 rfl rfl ?_
      refine ru_st 49 rfl rfl ?_
      refine ru_incN 52 _ rfl rfl (nI_1 _) rfl rfl ?_
      refine ru_st 28 rfl rfl ?_
      exact ih (y + 1) _ (by omega) (by rw [hu]; rfl)
  refine ru_st 1 rfl rfl ?_
  refine ru_st 2 rfl rfl ?_
  refine ru_call [_, _] _ 5 rfl rfl rfl rfl rfl (Nat.le_of_ble_eq_true rfl) (cats rfl) (rcv_s rfl hb.1) (p_X0_kindN d hb hn hA j hj) rfl ?_
  refine ru_st 6 rfl rfl ?_
  refine ru_st 7 rfl rfl ?_
  refine ru_st 8 rfl rfl ?_
  refine ru_st 11 rfl rfl ?_
  refine ru_st 12 rfl rfl ?_
  refine ru_st 13 rfl rfl ?_
  refine ru_st 14 rfl rfl ?_
  refine ru_st 15 rfl rfl ?_
  refine ru_st 16 rfl rfl ?_
  refine ru_st 17 rfl rfl ?_
  refine ru_st 20 rfl rfl ?_
  refine ru_st 21 rfl rfl ?_
  refine ru_st 22 rfl rfl ?_
  refine ru_st 23 rfl rfl ?_
  refine ru_st 24 rfl rfl ?_
  refine ru_st 25 rfl rfl ?_
  refine ru_ic 26 (nI 1) rfl (by decide) rfl ?_
  refine ru_st 28 rfl rfl ?_
  exact loop 4 0 _ (by omega) (by rw [vlK, show (24 * c + j) / 24 = c by omega, show (24 * c + j) % 24 = j by omega])
theorem bk.sm {G G' : ma_G} {a : Nat} {K N : Nat → Int32} {n : Nat} {S : Nat → Prop} (h : bk G a K N n) (hs : sm S G G') (h0 : ¬ S a) (h1 : ¬ S (a + 1)) (h2 : ¬ S (a + 2)) : bk G' a K N n := by
  refine ⟨?_, ?_, ?_⟩
  · rw [hs.obj h0]; exact h.1
  · rw [hs.ints h1]; exact h.2.1
  · rw [hs.ints h2]; exact h.2.2
theorem bk.pk {G : ma_G} {a : Nat} {K N : Nat → Int32} {n : Nat} (h : bk G a K N n) {K' : Nat → Int32} : bk (G.set (a + 1) (.inl (0, 24, .inl K'))) a K' N n := by
  refine ⟨?_, ?_, ?_⟩
  · rw [obj_ne (by omega)]; exact h.1
  · exact ints_eq (ints_lt h.2.1)
  · rw [ints_ne (by omega)]; exact h.2.2
theorem bk.pn {G : ma_G} {a : Nat} {K N : Nat → Int32} {n : Nat} (h : bk G a K N n) {N' : Nat → Int32} : bk (G.set (a + 2) (.inl (0, 96, .inl N'))) a K N' n := by
  refine ⟨?_, ?_, ?_⟩
  · rw [obj_ne (by omega)]; exact h.1
  · rw [ints_ne (by omega)]; exact h.2.1
  · exact ints_eq (ints_lt h.2.2)
theorem bk.ps {G : ma_G} {a : Nat} {K N : Nat → Int32} {n : Nat} (h : bk G a K N n) {n' : Nat} : bk (G.set a (.inr (0, [.ref (a + 1), .ref (a + 2), .int (nI n')]))) a K N n' := by
  refine ⟨?_, ?_, ?_⟩
  · exact obj_eq (obj_lt h.1)
  · rw [ints_ne (by omega)]; exact h.2.1
  · rw [ints_ne (by omega)]; exact h.2.2
def bIn (a : Nat) : Nat → Prop := fun x => a ≤ x ∧ x < a + 3
theorem bIn_k {a k : Nat} (h : k < 3) : bIn a (a + k) := ⟨by omega, by omega⟩
def apQ (G : ma_G) (a : Nat) (K N : Nat → Int32) (n : Nat) (k a0 a1 a2 a3 : Int32) (r : Option Value) (G' : ma_G) : Prop := r = some (.int (nI n)) ∧ sm (bIn a) G G' ∧ bk G' a (upd K n k) (upd (upd (upd (upd N (n * 4) a0) (n * 4 + 1) a1) (n * 4 + 2) a2) (n * 4 + 3) a3) (n + 1)
theorem p_X0_append (d : Nat) {G : ma_G} {a : Nat} {K N : Nat → Int32} {n : Nat} (hb : bk G a K N n) (hn : n < 24) (k a0 a1 a2 a3 : Int32) : Cq (d + 2) 46 [.ref a, .int k, .int a0, .int a1, .int a2, .int a3] G (apQ G a K N n k a0 a1 a2 a3) := by
  refine cq_of rfl ?_
  refine rq_st 1 rfl rfl ?_
  refine rq_call [_] _ 4 rfl rfl rfl rfl rfl (Nat.le_of_ble_eq_true rfl) (cats rfl) (rcv_s rfl hb.1) (p_X0_isFull d hb (by omega)) rfl ?_
  refine rq_ift rfl ((bI_if _).1.mpr (by omega)) ?_
  refine rq_st 10 rfl rfl ?_
  refine rq_getf 13 rfl hb.1 rfl rfl ?_
  refine rq_ic 14 (nI 4) rfl (by decide) rfl ?_
  refine rq_mulN 15 rfl rfl ?_
  refine rq_st 17 rfl rfl ?_
  refine rq_st 18 rfl rfl ?_
  refine rq_getf 21 rfl hb.1 rfl rfl ?_
  refine rq_st 22 rfl rfl ?_
  refine rq_getf 25 rfl hb.1 rfl rfl ?_
  refine rq_st 26 rfl rfl ?_
  refine rq_iasN 27 rfl hb.2.1 (by omega) (by decide) rfl ?_
  have hb1 := hb.pk (K' := upd K n k)
  refine rq_st 28 rfl rfl ?_
  refine rq_getf 31 rfl hb1.1 rfl rfl ?_
  refine rq_st 33 rfl rfl ?_
  refine rq_st 34 rfl rfl ?_
  refine rq_iasN 35 rfl hb1.2.2 (by omega) (by decide) rfl ?_
  have hb2 := hb1.pn (N' := (upd N (n * 4) a0))
  refine rq_st 36 rfl rfl ?_
  refine rq_getf 39 rfl hb2.1 rfl rfl ?_
  refine rq_st 41 rfl rfl ?_
  refine rq_ic 42 (nI 1) rfl (by decide) rfl ?_
  refine rq_addN 43 rfl rfl ?_
  refine rq_st 44 rfl rfl ?_
  refine rq_iasN 45 rfl hb2.2.2 (by omega) (by decide) rfl ?_
  have hb3 := hb2.pn (N' := (upd (upd N (n * 4) a0) (n * 4 + 1) a1))
  refine rq_st 46 rfl rfl ?_
  refine rq_getf 49 rfl hb3.1 rfl rfl ?_
  refine rq_st 51 rfl rfl ?_
  refine rq_ic 52 (nI 2) rfl (by decide) rfl ?_
  refine rq_addN 53 rfl rfl ?_
  refine rq_st 55 rfl rfl ?_
  refine rq_iasN 56 rfl hb3.2.2 (by omega) (by decide) rfl ?_
  have hb4 := hb3.pn (N' := (upd (upd (upd N (n * 4) a0) (n * 4 + 1) a1) (n * 4 + 2) a2))
  refine rq_st 57 rfl rfl ?_
  refine rq_getf 60 rfl hb4.1 rfl rfl ?_
  refine rq_st 62 rfl rfl ?_
  refine rq_ic 63 (nI 3) rfl (by decide) rfl ?_
  refine rq_addN 64 rfl rfl ?_
  refine rq_st 66 rfl rfl ?_
  refine rq_iasN 67 rfl hb4.2.2 (by omega) (by decide) rfl ?_
  have hb5 := hb4.pn (N' := (upd (upd (upd (upd N (n * 4) a0) (n * 4 + 1) a1) (n * 4 + 2) a2) (n * 4 + 3) a3))
  refine rq_st 68 rfl rfl ?_
  refine rq_st 69 rfl rfl ?_
  refine rq_getf 72 rfl hb5.1 rfl rfl ?_
  refine rq_ic 73 (nI 1) rfl (by decide) rfl ?_
  refine rq_addN 74 rfl rfl ?_
  refine rq_puti 77 rfl hb5.1 (Nat.le_of_ble_eq_true rfl) rfl rfl ?_
  have hb6 := hb5.ps (n' := n + 1)
  refine rq_st 78 rfl rfl ?_
  refine rq_getf 81 rfl hb6.1 rfl rfl ?_
  refine rq_ic 82 (nI 1) rfl (by decide) rfl ?_
  refine rq_subN 83 rfl (by omega) rfl ?_
  exact rq_iret rfl rfl rfl ⟨by rw [show n + 1 - 1 = n by omega], (((((sm.rf.set (bIn_k (k := 1) (by decide))).set (bIn_k (k := 2) (by decide))).set (bIn_k (k := 2) (by decide))).set (bIn_k (k := 2) (by decide))).set (bIn_k (k := 2) (by decide))).set (bIn_k (k := 0) (by decide)), hb6⟩
