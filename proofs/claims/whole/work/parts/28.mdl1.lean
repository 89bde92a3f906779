/-- how many entries the books have, how far each clinic knows them -/
def mKn (A : Nat → Nat → Int32) (n : Nat → Nat) (kn : Nat → Nat → Nat) : Prop := (∀ c, c < 4 → A 2 c = nI (n c) ∧ n c ≤ 24) ∧ ∀ c d, c < 4 → d < 4 → A 5 (4 * c + d) = nI (kn c d) ∧ kn c d ≤ n d
theorem mKn.le {A : Nat → Nat → Int32} {n : Nat → Nat} {kn : Nat → Nat → Nat} (h : mKn A n kn) {c d : Nat} (hc : c < 4) (hd : d < 4) : kn c d ≤ 24 := Nat.le_trans (h.2 c d hc hd).2 (h.1 d hd).2
/-- entry 'at' (24 to a book) is known to c -/
def isK (kn : Nat → Nat → Nat) (c a : Nat) : Prop := a % 24 < kn c (a / 24)
theorem p_X7_thrown (d : Nat) {b : Nat} {A : Nat → Nat → Int32} {t cn lt gd : Int32} {G : ma_G} (hm : mdl b A t cn lt gd G) : Ca (d + 1) 101 [.ref b] G (.inl (some (.int t)), G, 0, 0) := by
  refine ca_of rfl ?_
  refine ru_st 1 rfl rfl ?_
  refine ru_getf 4 rfl hm.1 rfl rfl ?_
  exact ru_ire rfl rfl rfl rfl
theorem p_X7_isKnown (d : Nat) {b : Nat} {A : Nat → Nat → Int32} {t cn lt gd : Int32} {G : ma_G} (hm : mdl b A t cn lt gd G) {n : Nat → Nat} {kn : Nat → Nat → Nat} (hk : mKn A n kn) (c : Nat) (hc : c < 4) (a : Nat) (ha : a < 96) : Ca (d + 1) 124 [.ref b, .int (nI c), .int (nI a)] G (.inl (some (.int (bI (isK kn c a)))), G, 0, 0) := by
  refine ca_of rfl ?_
  refine ru_st 1 rfl rfl ?_
  refine ru_bp 3 (nI 24) rfl (by decide) rfl ?_
  refine ru_remN 4 rfl (by omega) (by decide) (by decide) rfl ?_
  refine ru_st 5 rfl rfl ?_
  refine ru_getf 8 rfl hm.1 rfl rfl ?_
  refine ru_ic 9 (nI 4) rfl (by decide) rfl ?_
  refine ru_st 10 rfl rfl ?_
  refine ru_mulN 11 rfl rfl ?_
  refine ru_st 12 rfl rfl ?_
  refine ru_bp 14 (nI 24) rfl (by decide) rfl ?_
  refine ru_divN 15 rfl (by omega) (by decide) (by decide) rfl ?_
  refine ru_addN 16 rfl rfl ?_
  refine ru_ialN 17 rfl (hm.arr 5 (n := 16) (by decide) rfl rfl) (by omega) (by decide) rfl ?_
  rw [(hk.2 c (a / 24) hc (by omega)).1]
  have hle := hk.le hc (show a / 24 < 4 by omega)
  refine ru_cmpN 20 rfl rfl (by omega) (by omega) (fun h17 => ?_) (fun h17 => ?_)
  · dsimp only [cN] at h17
    have hz : ¬ isK kn c a := fun (q : a % 24 < kn c (a / 24)) => absurd q (by omega)
    refine ru_ic 25 (nI 0) rfl (by decide) rfl ?_
    exact ru_ire rfl rfl (by first | exact (bI_t hz).symm | exact (bI_f hz).symm) (bI_nb _)
  · dsimp only [cN] at h17
    have hz : isK kn c a := by show a % 24 < kn c (a / 24); omega
    refine ru_ic 21 (nI 1) rfl (by decide) rfl ?_
    refine ru_st 25 rfl rfl ?_
    exact ru_ire rfl rfl (by first | exact (bI_t hz).symm | exact (bI_f hz).symm) (bI_nb _)
/-- the least heard of b below m, but c's and d's own -/
def lsN (hr : Nat → Nat → Nat → Nat) (c d : Nat) : Nat → Nat
  | 0 => 24
  | b + 1 => if b ≠ c ∧ b ≠ d ∧ hr c b d < lsN hr c d b then hr c b d else lsN hr c d b
def mHr (A : Nat → Nat → Int32) (hr : Nat → Nat → Nat → Nat) : Prop := ∀ c b d, c < 4 → b < 4 → d < 4 → A 6 (16 * c + 4 * b + d) = nI (hr c b d) ∧ hr c b d ≤ 24
theorem lsN_le (hr : Nat → Nat → Nat → Nat) (c d : Nat) : ∀ m, lsN hr c d m ≤ 24 := by
  intro m
  induction m with
  | zero => exact Nat.le_refl 24
  | succ m ih =>
    unfold lsN
    split <;> omega
theorem p_X7_least (d : Nat) {b : Nat} {A : Nat → Nat → Int32} {t cn lt gd : Int32} {G : ma_G} (hm : mdl b A t cn lt gd G) {hr : Nat → Nat → Nat → Nat} (hh0 : mHr A hr) (c : Nat) (hc : c < 4) (dd : Nat) (hd : dd < 4) : Ca (d + 1) 111 [.ref b, .int (nI c), .int (nI dd)] G (.inl (some (.int (nI (lsN hr c dd 4)))), G, 0, 0) := by
  refine ca_of rfl ?_
  have loop : ∀ (m kk : Nat) (v : Int32) (o : Option Value), kk + m = 4 → v = nI (lsN hr c dd kk) → Ru d M_X7_least 6 [some (.ref b), some (.int (nI c)), some (.int (nI dd)), some (.int v), some (.int (nI kk)), o] [] G (.inl (some (.int (nI (lsN hr c dd 4)))), G, 0, 0) := by
    intro m
    induction m with
    | zero =>
      intro kk v o hk hv
      refine ru_st 8 rfl rfl ?_
      refine ru_ic 9 (nI 4) rfl (by decide) rfl ?_
      refine ru_cmpt rfl ((ma_cmpN (by omega) (by omega)).mpr (by show 4 ≤ kk; omega)) ?_
      refine ru_st 62 rfl rfl ?_
      exact ru_ire rfl rfl (by rw [hv, show kk = 4 by omega]) rfl
    | succ m ih =>
      intro kk v o hk hv
      have J : ∀ (v' : Int32) (o : Option Value), v' = nI (lsN hr c dd (kk + 1)) → Ru d M_X7_least 54 [some (.ref b), some (.int (nI c)), some (.int (nI dd)), some (.int v), some (.int (nI kk)), o] [.int v'] G (.inl (some (.int (nI (lsN hr c dd 4)))), G, 0, 0) := by
        intro v' o hv'
        refine ru_st 55 rfl rfl ?_
        refine ru_incN 58 _ rfl rfl (nI_1 _) rfl rfl ?_
        refine ru_st 6 rfl rfl ?_
        exact ih (kk + 1) _ _ (by omega) hv'
      refine ru_st 8 rfl rfl ?_
      refine ru_ic 9 (nI 4) rfl (by decide) rfl ?_
      refine ru_cmpf 12 rfl rfl (by rw [← Bool.not_eq_true, ma_cmpN (by omega) (by omega)]; show ¬ 4 ≤ kk; omega) ?_
      subst hv
      have hle := lsN_le hr c dd kk
      have hh := hh0 c kk dd hc (by omega) hd
      refine ru_st 13 rfl rfl ?_
      refine ru_getf 16 rfl hm.1 rfl rfl ?_
      refine ru_bp 18 (nI 16) rfl (by decide) rfl ?_
      refine ru_st 19 rfl rfl ?_
      refine ru_mulN 20 rfl rfl ?_
      refine ru_ic 21 (nI 4) rfl (by decide) rfl ?_
      refine ru_st 23 rfl rfl ?_
      refine ru_mulN 24 rfl rfl ?_
      refine ru_addN 25 rfl rfl ?_
      refine ru_st 26 rfl rfl ?_
      refine ru_addN 27 rfl rfl ?_
      refine ru_ialN 28 rfl (hm.arr 6 (n := 64) (by decide) rfl rfl) (by omega) (by decide) rfl ?_
      rw [hh.1]
      refine ru_st 30 rfl rfl ?_
      refine ru_st 32 rfl rfl ?_
      refine ru_st 33 rfl rfl ?_
      refine ru_cmpN 36 rfl rfl (by omega) (by omega) (fun h33 => ?_) (fun h33 => ?_)
      · dsimp only [cN] at h33
        have hz : lsN hr c dd (kk + 1) = lsN hr c dd kk := by rw [lsN, if_neg (fun q => q.1 h33)]
        refine ru_st 54 rfl rfl ?_
        exact J _ _ (by rw [hz])
      · dsimp only [cN] at h33
        refine ru_st 38 rfl rfl ?_
        refine ru_st 39 rfl rfl ?_
        refine ru_cmpN 42 rfl rfl (by omega) (by omega) (fun h39 => ?_) (fun h39 => ?_)
        · dsimp only [cN] at h39
          have hz : lsN hr c dd (kk + 1) = lsN hr c dd kk := by rw [lsN, if_neg (fun q => q.2.1 h39)]
          refine ru_st 54 rfl rfl ?_
          exact J _ _ (by rw [hz])
        · dsimp only [cN] at h39
          refine ru_st 44 rfl rfl ?_
          refine ru_st 45 rfl rfl ?_
          refine ru_cmpN 48 rfl rfl (by omega) (by omega) (fun h45 => ?_) (fun h45 => ?_)
          · dsimp only [cN] at h45
            have hz : lsN hr c dd (kk + 1) = lsN hr c dd kk := by rw [lsN, if_neg (fun q => absurd q.2.2 (by omega))]
            refine ru_st 54 rfl rfl ?_
            exact J _ _ (by rw [hz])
          · dsimp only [cN] at h45
            have hz : lsN hr c dd (kk + 1) = hr c kk dd := by rw [lsN, if_pos ⟨h33, h39, by omega⟩]
            refine ru_st 50 rfl rfl ?_
            refine ru_st 54 rfl rfl ?_
            exact J _ _ (by rw [hz])
  refine ru_bp 2 (nI 24) rfl (by decide) rfl ?_
  refine ru_st 3 rfl rfl ?_
  refine ru_ic 4 (nI 0) rfl (by decide) rfl ?_
  refine ru_st 6 rfl rfl ?_
  exact loop 4 0 _ _ (by omega) rfl
def rdN (w my : Nat) : Nat := if (if w < 2 then 0 else 4 * (w - 1)) < my then (if w < 2 then 0 else 4 * (w - 1)) else my
def mSt (A : Nat → Nat → Int32) (w my : Nat → Nat) : Prop := ∀ s, s < 3 → A 7 s = nI (w s) ∧ w s ≤ 25 ∧ A 10 s = nI (my s) ∧ my s ≤ 96
theorem p_X7_readable (d : Nat) {b : Nat} {A : Nat → Nat → Int32} {t cn lt gd : Int32} {G : ma_G} (hm : mdl b A t cn lt gd G) {w my : Nat → Nat} (hst : mSt A w my) (s : Nat) (hs3 : s < 3) : Ca (d + 1) 114 [.ref b, .int (nI s)] G (.inl (some (.int (nI (rdN (w s) (my s))))), G, 0, 0) := by
  refine ca_of rfl ?_
  have J : ∀ q : Nat, q = (if w s < 2 then 0 else 4 * (w s - 1)) → Ru d M_X7_readable 24 [some (.ref b), some (.int (nI s)), none] [.int (nI q)] G (.inl (some (.int (nI (rdN (w s) (my s))))), G, 0, 0) := by
    intro q hv
    have hs := hst s hs3
    have hq : q ≤ 96 := by rw [hv]; split <;> omega
    refine ru_st 25 rfl rfl ?_
    refine ru_st 26 rfl rfl ?_
    refine ru_st 27 rfl rfl ?_
    refine ru_getf 30 rfl hm.1 rfl rfl ?_
    refine ru_st 31 rfl rfl ?_
    refine ru_ialN 32 rfl (hm.arr 10 (n := 3) (by decide) rfl rfl) (by omega) (by decide) rfl ?_
    rw [hs.2.2.1]
    refine ru_cmpN 35 rfl rfl (by omega) (by omega) (fun h32 => ?_) (fun h32 => ?_)
    · dsimp only [cN] at h32
      refine ru_st 40 rfl rfl ?_
      refine ru_getf 43 rfl hm.1 rfl rfl ?_
      refine ru_st 44 rfl rfl ?_
      refine ru_ialN 45 rfl (hm.arr 10 (n := 3) (by decide) rfl rfl) (by omega) (by decide) rfl ?_
      rw [hs.2.2.1]
      exact ru_ire rfl rfl (by unfold rdN; rw [← hv]; first | rw [if_pos (by omega)] | rw [if_neg (by omega)]) rfl
    · dsimp only [cN] at h32
      refine ru_st 36 rfl rfl ?_
      refine ru_st 45 rfl rfl ?_
      exact ru_ire rfl rfl (by unfold rdN; rw [← hv]; first | rw [if_pos (by omega)] | rw [if_neg (by omega)]) rfl
  have hs := hst s hs3
  refine ru_st 1 rfl rfl ?_
  refine ru_getf 4 rfl hm.1 rfl rfl ?_
  refine ru_st 5 rfl rfl ?_
  refine ru_ialN 6 rfl (hm.arr 7 (n := 3) (by decide) rfl rfl) (by omega) (by decide) rfl ?_
  rw [hs.1]
  refine ru_ic 7 (nI 2) rfl (by decide) rfl ?_
  refine ru_cmpN 10 rfl rfl (by omega) (by omega) (fun h7 => ?_) (fun h7 => ?_)
  · dsimp only [cN] at h7
    refine ru_ic 15 (nI 4) rfl (by decide) rfl ?_
    refine ru_st 16 rfl rfl ?_
    refine ru_getf 19 rfl hm.1 rfl rfl ?_
    refine ru_st 20 rfl rfl ?_
    refine ru_ialN 21 rfl (hm.arr 7 (n := 3) (by decide) rfl rfl) (by omega) (by decide) rfl ?_
    rw [hs.1]
    refine ru_ic 22 (nI 1) rfl (by decide) rfl ?_
    refine ru_subN 23 rfl (by omega) rfl ?_
    refine ru_mulN 24 rfl rfl ?_
    exact J _ (by first | rw [if_pos (by omega)] | rw [if_neg (by omega)])
  · dsimp only [cN] at h7
    refine ru_ic 11 (nI 0) rfl (by decide) rfl ?_
    refine ru_st 24 rfl rfl ?_
    exact J _ (by first | rw [if_pos (by omega)] | rw [if_neg (by omega)])
def rc1 (A : Nat → Nat → Int32) (kn : Nat → Nat → Nat) (c : Nat) (lot day : Int32) (a : Nat) : Prop := (isK kn c a ∧ A 3 a = nI 3 ∧ A 4 (4 * a) = lot) ∧ A 4 (4 * a + 1) ≤ day ∧ day ≤ A 4 (4 * a + 2)
def rcl (A : Nat → Nat → Int32) (kn : Nat → Nat → Nat) (c : Nat) (lot day : Int32) (m : Nat) : Prop := ∃ a, a < m ∧ rc1 A kn c lot day a
theorem rcl_0 {A : Nat → Nat → Int32} {kn : Nat → Nat → Nat} {c : Nat} {lot day : Int32} : ¬ rcl A kn c lot day 0 := fun ⟨k, h, _⟩ => absurd h (Nat.not_lt_zero k)
theorem rcl_s {A : Nat → Nat → Int32} {kn : Nat → Nat → Nat} {c : Nat} {lot day : Int32} {m : Nat} : rcl A kn c lot day (m + 1) ↔ rcl A kn c lot day m ∨ rc1 A kn c lot day m := by
  constructor
  · rintro ⟨k, h1, h2⟩
    by_cases hk : k = m
    · subst hk; exact Or.inr h2
    · exact Or.inl ⟨k, by omega, h2⟩
  · rintro (⟨k, h1, h2⟩ | h)
    · exact ⟨k, by omega, h2⟩
    · exact ⟨m, by omega, h⟩
theorem p_X7_isRecalled (d : Nat) {b : Nat} {A : Nat → Nat → Int32} {t cn lt gd : Int32} {G : ma_G} (hm : mdl b A t cn lt gd G) {n : Nat → Nat} {kn : Nat → Nat → Nat} (hk : mKn A n kn) (c : Nat) (hc : c < 4) (lot day : Int32) : Ca (d + 2) 125 [.ref b, .int (nI c), .int lot, .int day] G (.inl (some (.int (bI (rcl A kn c lot day 96)))), G, 0, 0) := by
  refine ca_of rfl ?_
  have loop : ∀ (m kk : Nat) (v : Int32) (o : Option Value), kk + m = 96 → v = bI (rcl A kn c lot day kk) → Ru (d + 1) M_X7_isRecalled 6 [some (.ref b), some (.int (nI c)), some (.int lot), some (.int day), some (.int v), some (.int (nI kk)), o] [] G (.inl (some (.int (bI (rcl A kn c lot day 96)))), G, 0, 0) := by
    intro m
    induction m with
    | zero =>
      intro kk v o hk1 hv
      refine ru_st 8 rfl rfl ?_
      refine ru_bp 10 (nI 96) rfl (by decide) rfl ?_
      refine ru_cmpt rfl ((ma_cmpN (by omega) (by omega)).mpr (by show 96 ≤ kk; omega)) ?_
      refine ru_st 109 rfl rfl ?_
      exact ru_ire rfl rfl (by rw [hv, show kk = 96 by omega]) (bI_nb _)
    | succ m ih =>
      intro kk v o hk1 hv
      have J2 : ∀ (v' : Int32) {o : Option Value}, v' = bI (rcl A kn c lot day (kk + 1)) → Ru (d + 1) M_X7_isRecalled 99 [some (.ref b), some (.int (nI c)), some (.int lot), some (.int day), some (.int v), some (.int (nI kk)), o] [.int v'] G (.inl (some (.int (bI (rcl A kn c lot day 96)))), G, 0, 0) := by
        intro v' o hv'
        refine ru_st 101 rfl rfl ?_
        refine ru_incN 104 _ rfl rfl (nI_1 _) rfl rfl ?_
        refine ru_st 6 rfl rfl ?_
        exact ih (kk + 1) _ _ (by omega) hv'
      have J1 : ∀ (v' : Int32), v' = bI (isK kn c kk ∧ A 3 kk = nI 3 ∧ A 4 (4 * kk) = lot) → Ru (d + 1) M_X7_isRecalled 52 [some (.ref b), some (.int (nI c)), some (.int lot), some (.int day), some (.int v), some (.int (nI kk)), o] [.int v'] G (.inl (some (.int (bI (rcl A kn c lot day 96)))), G, 0, 0) := by
        intro v' hv'
        subst hv'
        refine ru_st 54 rfl rfl ?_
        refine ru_st 56 rfl rfl ?_
        subst hv
        refine ru_ifnB 59 rfl rfl (fun h56 => ?_) (fun h56 => ?_)
        · skip
          have hz : rcl A kn c lot day (kk + 1) := rcl_s.mpr (Or.inl h56)
          refine ru_ic 95 (nI 1) rfl (by decide) rfl ?_
          refine ru_st 99 rfl rfl ?_
          exact J2 _ (by first | exact (bI_t hz).symm | exact (bI_f hz).symm)
        · skip
          refine ru_st 61 rfl rfl ?_
          refine ru_ifB 64 rfl rfl (fun h61 => ?_) (fun h61 => ?_)
          · skip
            have hz : ¬ rcl A kn c lot day (kk + 1) := fun q => (rcl_s.mp q).elim h56 (fun q => h61 q.1)
            refine ru_ic 99 (nI 0) rfl (by decide) rfl ?_
            exact J2 _ (by first | exact (bI_t hz).symm | exact (bI_f hz).symm)
          · skip
            refine ru_st 65 rfl rfl ?_
            refine ru_getf 68 rfl hm.1 rfl rfl ?_
            refine ru_ic 69 (nI 4) rfl (by decide) rfl ?_
            refine ru_st 71 rfl rfl ?_
            refine ru_mulN 72 rfl rfl ?_
            refine ru_ic 73 (nI 1) rfl (by decide) rfl ?_
            refine ru_addN 74 rfl rfl ?_
            refine ru_ialN 75 rfl (hm.arr 4 (n := 384) (by decide) rfl rfl) (by omega) (by decide) rfl ?_
            refine ru_st 76 rfl rfl ?_
            refine ru_cmpI 79 rfl rfl (fun h76 => ?_) (fun h76 => ?_)
            · dsimp only [cI] at h76
              have hz : ¬ rcl A kn c lot day (kk + 1) := fun q => (rcl_s.mp q).elim h56 (fun q => absurd h76 (Int32.not_lt.mpr q.2.1))
              refine ru_ic 99 (nI 0) rfl (by decide) rfl ?_
              exact J2 _ (by first | exact (bI_t hz).symm | exact (bI_f hz).symm)
            · dsimp only [cI] at h76
              refine ru_st 80 rfl rfl ?_
              refine ru_st 81 rfl rfl ?_
              refine ru_getf 84 rfl hm.1 rfl rfl ?_
              refine ru_ic 85 (nI 4) rfl (by decide) rfl ?_
              refine ru_st 87 rfl rfl ?_
              refine ru_mulN 88 rfl rfl ?_
              refine ru_ic 89 (nI 2) rfl (by decide) rfl ?_
              refine ru_addN 90 rfl rfl ?_
              refine ru_ialN 91 rfl (hm.arr 4 (n := 384) (by decide) rfl rfl) (by omega) (by decide) rfl ?_
              refine ru_cmpI 94 rfl rfl (fun h91 => ?_) (fun h91 => ?_)
              · dsimp only [cI] at h91
                have hz : ¬ rcl A kn c lot day (kk + 1) := fun q => (rcl_s.mp q).elim h56 (fun q => absurd h91 (Int32.not_lt.mpr q.2.2))
                refine ru_ic 99 (nI 0) rfl (by decide) rfl ?_
                exact J2 _ (by first | exact (bI_t hz).symm | exact (bI_f hz).symm)
              · dsimp only [cI] at h91
                have hz : rcl A kn c lot day (kk + 1) := rcl_s.mpr (Or.inr ⟨h61, Int32.not_lt.mp h76, Int32.not_lt.mp h91⟩)
                refine ru_ic 95 (nI 1) rfl (by decide) rfl ?_
                refine ru_st 99 rfl rfl ?_
                exact J2 _ (by first | exact (bI_t hz).symm | exact (bI_f hz).symm)
      refine ru_st 8 rfl rfl ?_
      refine ru_bp 10 (nI 96) rfl (by decide) rfl ?_
      refine ru_cmpf 13 rfl rfl (by rw [← Bool.not_eq_true, ma_cmpN (by omega) (by omega)]; show ¬ 96 ≤ kk; omega) ?_
      refine ru_st 14 rfl rfl ?_
      refine ru_st 15 rfl rfl ?_
      refine ru_st 17 rfl rfl ?_
      refine ru_call [_, _, _] _ 20 rfl rfl rfl rfl rfl (Nat.le_of_ble_eq_true rfl) (cats rfl) (rcv_s rfl hm.1) (p_X7_isKnown d hm hk c hc kk (by omega)) rfl ?_
      refine ru_ifB 23 rfl rfl (fun h20 => ?_) (fun h20 => ?_)
      · skip
        have hz : ¬ (isK kn c kk ∧ A 3 kk = nI 3 ∧ A 4 (4 * kk) = lot) := fun q => h20 q.1
        refine ru_ic 52 (nI 0) rfl (by decide) rfl ?_
        exact J1 _ (by first | exact (bI_t hz).symm | exact (bI_f hz).symm)
      · skip
        refine ru_st 24 rfl rfl ?_
        refine ru_getf 27 rfl hm.1 rfl rfl ?_
        refine ru_st 29 rfl rfl ?_
        refine ru_ialN 30 rfl (hm.arr 3 (n := 96) (by decide) rfl rfl) (by omega) (by decide) rfl ?_
        refine ru_ic 31 (nI 3) rfl (by decide) rfl ?_
        refine ru_cmpI 34 rfl rfl (fun h31 => ?_) (fun h31 => ?_)
        · dsimp only [cI] at h31
          have hz : ¬ (isK kn c kk ∧ A 3 kk = nI 3 ∧ A 4 (4 * kk) = lot) := fun q => h31 q.2.1
          refine ru_ic 52 (nI 0) rfl (by decide) rfl ?_
          exact J1 _ (by first | exact (bI_t hz).symm | exact (bI_f hz).symm)
        · dsimp only [cI] at h31
          refine ru_st 35 rfl rfl ?_
          refine ru_getf 38 rfl hm.1 rfl rfl ?_
          refine ru_ic 39 (nI 4) rfl (by decide) rfl ?_
          refine ru_st 41 rfl rfl ?_
          refine ru_mulN 42 rfl rfl ?_
          refine ru_ialN 43 rfl (hm.arr 4 (n := 384) (by decide) rfl rfl) (by omega) (by decide) rfl ?_
          refine ru_st 44 rfl rfl ?_
          refine ru_cmpI 47 rfl rfl (fun h44 => ?_) (fun h44 => ?_)
          · dsimp only [cI] at h44
            have hz : ¬ (isK kn c kk ∧ A 3 kk = nI 3 ∧ A 4 (4 * kk) = lot) := fun q => h44 q.2.2
            refine ru_ic 52 (nI 0) rfl (by decide) rfl ?_
            exact J1 _ (by first | exact (bI_t hz).symm | exact (bI_f hz).symm)
          · dsimp only [cI] at h44
            have hz : (isK kn c kk ∧ A 3 kk = nI 3 ∧ A 4 (4 * kk) = lot) := ⟨h20, Classical.byContradiction h31, Classical.byContradiction h44⟩
            refine ru_ic 48 (nI 1) rfl (by decide) rfl ?_
            refine ru_st 52 rfl rfl ?_
            exact J1 _ (by first | exact (bI_t hz).symm | exact (bI_f hz).symm)
  refine ru_ic 1 (nI 0) rfl (by decide) rfl ?_
  refine ru_st 3 rfl rfl ?_
  refine ru_ic 4 (nI 0) rfl (by decide) rfl ?_
  refine ru_st 6 rfl rfl ?_
  exact loop 96 0 _ _ (by omega) (bI_f rcl_0).symm
def vld (A : Nat → Nat → Int32) (kn : Nat → Nat → Nat) (c a : Nat) : Prop := (isK kn c a ∧ A 3 a = nI 1) ∧ ¬ strk A (a / 24) (nI (a % 24)) (kn c (a / 24)) ∧ ¬ rcl A kn c (A 4 (4 * a + 2)) (A 4 (4 * a + 3)) 96
theorem p_X7_isValid (d : Nat) {b : Nat} {A : Nat → Nat → Int32} {t cn lt gd : Int32} {G : ma_G} (hm : mdl b A t cn lt gd G) {n : Nat → Nat} {kn : Nat → Nat → Nat} (hk : mKn A n kn) (c : Nat) (hc : c < 4) (a : Nat) (ha : a < 96) : Ca (d + 3) 123 [.ref b, .int (nI c), .int (nI a)] G (.inl (some (.int (bI (vld A kn c a)))), G, 0, 0) := by
  refine ca_of rfl ?_
  have J : ∀ v : Int32, v = bI (isK kn c a ∧ A 3 a = nI 1) → Ru (d + 2) M_X7_isValid 24 [some (.ref b), some (.int (nI c)), some (.int (nI a)), none] [.int v] G (.inl (some (.int (bI (vld A kn c a)))), G, 0, 0) := by
    intro v hv
    subst hv
    refine ru_st 25 rfl rfl ?_
    refine ru_st 26 rfl rfl ?_
    refine ru_ifB 29 rfl rfl (fun h26 => ?_) (fun h26 => ?_)
    · skip
      have hz : ¬ vld A kn c a := fun q => h26 q.1
      refine ru_ic 90 (nI 0) rfl (by decide) rfl ?_
      exact ru_ire rfl rfl (by first | exact (bI_t hz).symm | exact (bI_f hz).symm) (bI_nb _)
    · skip
      refine ru_st 30 rfl rfl ?_
      refine ru_st 31 rfl rfl ?_
      refine ru_bp 33 (nI 24) rfl (by decide) rfl ?_
      refine ru_divN 34 rfl (by omega) (by decide) (by decide) rfl ?_
      refine ru_st 35 rfl rfl ?_
      refine ru_bp 37 (nI 24) rfl (by decide) rfl ?_
      refine ru_remN 38 rfl (by omega) (by decide) (by decide) rfl ?_
      refine ru_st 39 rfl rfl ?_
      refine ru_getf 42 rfl hm.1 rfl rfl ?_
      refine ru_ic 43 (nI 4) rfl (by decide) rfl ?_
      refine ru_st 44 rfl rfl ?_
      refine ru_mulN 45 rfl rfl ?_
      refine ru_st 46 rfl rfl ?_
      refine ru_bp 48 (nI 24) rfl (by decide) rfl ?_
      refine ru_divN 49 rfl (by omega) (by decide) (by decide) rfl ?_
      refine ru_addN 50 rfl rfl ?_
      refine ru_ialN 51 rfl (hm.arr 5 (n := 16) (by decide) rfl rfl) (by omega) (by decide) rfl ?_
      rw [(hk.2 c (a / 24) hc (by omega)).1]
      refine ru_call [_, _, _, _] _ 54 rfl rfl rfl rfl rfl (Nat.le_of_ble_eq_true rfl) (cats rfl) (rcv_s rfl hm.1) (p_X7_isStruck (d + 1) hm (a / 24) (by omega) (nI (a % 24)) (kn c (a / 24)) (hk.le hc (by omega))) rfl ?_
      refine ru_ifnB 57 rfl rfl (fun h54 => ?_) (fun h54 => ?_)
      · skip
        have hz : ¬ vld A kn c a := fun q => q.2.1 h54
        refine ru_ic 90 (nI 0) rfl (by decide) rfl ?_
        exact ru_ire rfl rfl (by first | exact (bI_t hz).symm | exact (bI_f hz).symm) (bI_nb _)
      · skip
        refine ru_st 58 rfl rfl ?_
        refine ru_st 59 rfl rfl ?_
        refine ru_st 60 rfl rfl ?_
        refine ru_getf 63 rfl hm.1 rfl rfl ?_
        refine ru_ic 64 (nI 4) rfl (by decide) rfl ?_
        refine ru_st 65 rfl rfl ?_
        refine ru_mulN 66 rfl rfl ?_
        refine ru_ic 67 (nI 2) rfl (by decide) rfl ?_
        refine ru_addN 68 rfl rfl ?_
        refine ru_ialN 69 rfl (hm.arr 4 (n := 384) (by decide) rfl rfl) (by omega) (by decide) rfl ?_
        refine ru_st 70 rfl rfl ?_
        refine ru_getf 73 rfl hm.1 rfl rfl ?_
        refine ru_ic 74 (nI 4) rfl (by decide) rfl ?_
        refine ru_st 75 rfl rfl ?_
        refine ru_mulN 76 rfl rfl ?_
        refine ru_ic 77 (nI 3) rfl (by decide) rfl ?_
        refine ru_addN 78 rfl rfl ?_
        refine ru_ialN 79 rfl (hm.arr 4 (n := 384) (by decide) rfl rfl) (by omega) (by decide) rfl ?_
        refine ru_call [_, _, _, _] _ 82 rfl rfl rfl rfl rfl (Nat.le_of_ble_eq_true rfl) (cats rfl) (rcv_s rfl hm.1) (p_X7_isRecalled d hm hk c hc _ _) rfl ?_
        refine ru_ifnB 85 rfl rfl (fun h82 => ?_) (fun h82 => ?_)
        · skip
          have hz : ¬ vld A kn c a := fun q => q.2.2 h82
          refine ru_ic 90 (nI 0) rfl (by decide) rfl ?_
          exact ru_ire rfl rfl (by first | exact (bI_t hz).symm | exact (bI_f hz).symm) (bI_nb _)
        · skip
          have hz : vld A kn c a := ⟨h26, h54, h82⟩
          refine ru_ic 86 (nI 1) rfl (by decide) rfl ?_
          refine ru_st 90 rfl rfl ?_
          exact ru_ire rfl rfl (by first | exact (bI_t hz).symm | exact (bI_f hz).symm) (bI_nb _)
  refine ru_st 1 rfl rfl ?_
  refine ru_st 2 rfl rfl ?_
  refine ru_st 3 rfl rfl ?_
  refine ru_call [_, _, _] _ 6 rfl rfl rfl rfl rfl (Nat.le_of_ble_eq_true rfl) (cats rfl) (rcv_s rfl hm.1) (p_X7_isKnown (d + 1) hm hk c hc a ha) rfl ?_
  refine ru_ifB 9 rfl rfl (fun h6 => ?_) (fun h6 => ?_)
  · skip
    have hz : ¬ (isK kn c a ∧ A 3 a = nI 1) := fun q => h6 q.1
    refine ru_ic 24 (nI 0) rfl (by decide) rfl ?_
    exact J _ (by first | exact (bI_t hz).symm | exact (bI_f hz).symm)
  · skip
    refine ru_st 10 rfl rfl ?_
    refine ru_getf 13 rfl hm.1 rfl rfl ?_
    refine ru_st 14 rfl rfl ?_
    refine ru_ialN 15 rfl (hm.arr 3 (n := 96) (by decide) rfl rfl) (by omega) (by decide) rfl ?_
    refine ru_ic 16 (nI 1) rfl (by decide) rfl ?_
    refine ru_cmpI 19 rfl rfl (fun h16 => ?_) (fun h16 => ?_)
    · dsimp only [cI] at h16
      have hz : ¬ (isK kn c a ∧ A 3 a = nI 1) := fun q => h16 q.2
      refine ru_ic 24 (nI 0) rfl (by decide) rfl ?_
      exact J _ (by first | exact (bI_t hz).symm | exact (bI_f hz).symm)
    · dsimp only [cI] at h16
      have hz : (isK kn c a ∧ A 3 a = nI 1) := ⟨h6, Classical.byContradiction h16⟩
      refine ru_ic 20 (nI 1) rfl (by decide) rfl ?_
      refine ru_st 24 rfl rfl ?_
      exact J _ (by first | exact (bI_t hz).symm | exact (bI_f hz).symm)
