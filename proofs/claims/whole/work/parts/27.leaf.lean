/-! leaves: numbers in range; the model's arrays -/
section HEAP
variable {G : ma_G} {a b ci n : Nat} {e : va_E} {fs gs : List Value} {f g : Nat → Int32}
theorem obj_ne (h : a ≠ b) : ma_obj (G.set a e) b ci = ma_obj G b ci := by unfold ma_obj; rw [List.getElem?_set_ne h]
theorem ints_ne (h : a ≠ b) : ma_ints (G.set a e) b = ma_ints G b := by unfold ma_ints; rw [List.getElem?_set_ne h]
theorem refs_ne (h : a ≠ b) : ma_refs (G.set a e) b = ma_refs G b := by unfold ma_refs; rw [List.getElem?_set_ne h]
theorem longs_ne (h : a ≠ b) : ma_longs (G.set a e) b = ma_longs G b := by unfold ma_longs; rw [List.getElem?_set_ne h]
theorem obj_lt (h : ma_obj G a ci = some fs) : a < G.length := (List.getElem?_eq_some_iff.mp (ma_obj_eq h)).1
theorem ints_lt {q : Nat × (Nat → Int32)} (h : ma_ints G a = some q) : a < G.length := (List.getElem?_eq_some_iff.mp (ma_ints_eq h)).1
theorem obj_eq (h : a < G.length) : ma_obj (G.set a (.inr (ci, gs))) a ci = some gs := by unfold ma_obj; rw [List.getElem?_set_self h]; simp
theorem ints_eq (h : a < G.length) : ma_ints (G.set a (.inl (0, n, .inl g))) a = some (n, g) := by unfold ma_ints; rw [List.getElem?_set_self h]; simp
end HEAP
/-- the heaps agree outside S -/
def sm (S : Nat → Prop) (G G' : ma_G) : Prop := G'.length = G.length ∧ ∀ a : Nat, ¬ S a → G'[a]? = G[a]?
theorem sm.rf {S : Nat → Prop} {G : ma_G} : sm S G G := ⟨rfl, fun _ _ => rfl⟩
theorem sm.tr {S : Nat → Prop} {G G' G'' : ma_G} (h : sm S G G') (h' : sm S G' G'') : sm S G G'' := ⟨h'.1.trans h.1, fun a ha => (h'.2 a ha).trans (h.2 a ha)⟩
theorem sm.set {S : Nat → Prop} {G G' : ma_G} {a : Nat} {e : va_E} (h : sm S G G') (ha : S a) : sm S G (G'.set a e) := ⟨by rw [List.length_set]; exact h.1, fun b hb => by
  have hne : a ≠ b := fun q => hb (by rw [← q]; exact ha)
  rw [List.getElem?_set_ne hne]; exact h.2 b hb⟩
theorem sm.obj {S : Nat → Prop} {G G' : ma_G} (h : sm S G G') {a ci : Nat} (ha : ¬ S a) : ma_obj G' a ci = ma_obj G a ci := by unfold ma_obj; rw [h.2 a ha]
theorem sm.ints {S : Nat → Prop} {G G' : ma_G} (h : sm S G G') {a : Nat} (ha : ¬ S a) : ma_ints G' a = ma_ints G a := by unfold ma_ints; rw [h.2 a ha]
theorem sm.refs {S : Nat → Prop} {G G' : ma_G} (h : sm S G G') {a : Nat} (ha : ¬ S a) : ma_refs G' a = ma_refs G a := by unfold ma_refs; rw [h.2 a ha]
theorem sm.mono {S S' : Nat → Prop} {G G' : ma_G} (h : sm S G G') (hS : ∀ a, S a → S' a) : sm S' G G' := ⟨h.1, fun a ha => h.2 a (fun q => ha (hS a q))⟩
theorem p_X6_isClinic (d : Nat) (i : Int32) (G : ma_G) : Ca (d + 1) 13 [.int i] G (.inl (some (.int (bI (inN i 4)))), G, 0, 0) := by
  refine ca_of rfl ?_
  refine ru_st 1 rfl rfl ?_
  refine ru_ifI 4 rfl rfl (fun h1 => ?_) (fun h1 => ?_)
  · dsimp only [cI] at h1
    have hz : ¬ inN i 4 := inN_lo (by decide) h1
    refine ru_ic 14 (nI 0) rfl (by decide) rfl ?_
    exact ru_ire rfl rfl (by first | exact (bI_t hz).symm | exact (bI_f hz).symm) (bI_nb _)
  · dsimp only [cI] at h1
    refine ru_st 5 rfl rfl ?_
    refine ru_ic 6 (nI 4) rfl (by decide) rfl ?_
    refine ru_cmpI 9 rfl rfl (fun h6 => ?_) (fun h6 => ?_)
    · dsimp only [cI] at h6
      have hz : ¬ inN i 4 := inN_hi (by decide) h6
      refine ru_ic 14 (nI 0) rfl (by decide) rfl ?_
      exact ru_ire rfl rfl (by first | exact (bI_t hz).symm | exact (bI_f hz).symm) (bI_nb _)
    · dsimp only [cI] at h6
      have hz : inN i 4 := inN_of (by decide) h1 h6
      refine ru_ic 10 (nI 1) rfl (by decide) rfl ?_
      refine ru_st 14 rfl rfl ?_
      exact ru_ire rfl rfl (by first | exact (bI_t hz).symm | exact (bI_f hz).symm) (bI_nb _)
theorem p_X6_isPerson (d : Nat) (i : Int32) (G : ma_G) : Ca (d + 1) 26 [.int i] G (.inl (some (.int (bI (inN i 12)))), G, 0, 0) := by
  refine ca_of rfl ?_
  refine ru_st 1 rfl rfl ?_
  refine ru_ifI 4 rfl rfl (fun h1 => ?_) (fun h1 => ?_)
  · dsimp only [cI] at h1
    have hz : ¬ inN i 12 := inN_lo (by decide) h1
    refine ru_ic 15 (nI 0) rfl (by decide) rfl ?_
    exact ru_ire rfl rfl (by first | exact (bI_t hz).symm | exact (bI_f hz).symm) (bI_nb _)
  · dsimp only [cI] at h1
    refine ru_st 5 rfl rfl ?_
    refine ru_bp 7 (nI 12) rfl (by decide) rfl ?_
    refine ru_cmpI 10 rfl rfl (fun h7 => ?_) (fun h7 => ?_)
    · dsimp only [cI] at h7
      have hz : ¬ inN i 12 := inN_hi (by decide) h7
      refine ru_ic 15 (nI 0) rfl (by decide) rfl ?_
      exact ru_ire rfl rfl (by first | exact (bI_t hz).symm | exact (bI_f hz).symm) (bI_nb _)
    · dsimp only [cI] at h7
      have hz : inN i 12 := inN_of (by decide) h1 h7
      refine ru_ic 11 (nI 1) rfl (by decide) rfl ?_
      refine ru_st 15 rfl rfl ?_
      exact ru_ire rfl rfl (by first | exact (bI_t hz).symm | exact (bI_f hz).symm) (bI_nb _)
theorem p_X6_isLot (d : Nat) (i : Int32) (G : ma_G) : Ca (d + 1) 21 [.int i] G (.inl (some (.int (bI (inN i 10)))), G, 0, 0) := by
  refine ca_of rfl ?_
  refine ru_st 1 rfl rfl ?_
  refine ru_ifI 4 rfl rfl (fun h1 => ?_) (fun h1 => ?_)
  · dsimp only [cI] at h1
    have hz : ¬ inN i 10 := inN_lo (by decide) h1
    refine ru_ic 15 (nI 0) rfl (by decide) rfl ?_
    exact ru_ire rfl rfl (by first | exact (bI_t hz).symm | exact (bI_f hz).symm) (bI_nb _)
  · dsimp only [cI] at h1
    refine ru_st 5 rfl rfl ?_
    refine ru_bp 7 (nI 10) rfl (by decide) rfl ?_
    refine ru_cmpI 10 rfl rfl (fun h7 => ?_) (fun h7 => ?_)
    · dsimp only [cI] at h7
      have hz : ¬ inN i 10 := inN_hi (by decide) h7
      refine ru_ic 15 (nI 0) rfl (by decide) rfl ?_
      exact ru_ire rfl rfl (by first | exact (bI_t hz).symm | exact (bI_f hz).symm) (bI_nb _)
    · dsimp only [cI] at h7
      have hz : inN i 10 := inN_of (by decide) h1 h7
      refine ru_ic 11 (nI 1) rfl (by decide) rfl ?_
      refine ru_st 15 rfl rfl ?_
      exact ru_ire rfl rfl (by first | exact (bI_t hz).symm | exact (bI_f hz).symm) (bI_nb _)
theorem p_X6_isStick (d : Nat) (i : Int32) (G : ma_G) : Ca (d + 1) 8 [.int i] G (.inl (some (.int (bI (inN i 3)))), G, 0, 0) := by
  refine ca_of rfl ?_
  refine ru_st 1 rfl rfl ?_
  refine ru_ifI 4 rfl rfl (fun h1 => ?_) (fun h1 => ?_)
  · dsimp only [cI] at h1
    have hz : ¬ inN i 3 := inN_lo (by decide) h1
    refine ru_ic 14 (nI 0) rfl (by decide) rfl ?_
    exact ru_ire rfl rfl (by first | exact (bI_t hz).symm | exact (bI_f hz).symm) (bI_nb _)
  · dsimp only [cI] at h1
    refine ru_st 5 rfl rfl ?_
    refine ru_ic 6 (nI 3) rfl (by decide) rfl ?_
    refine ru_cmpI 9 rfl rfl (fun h6 => ?_) (fun h6 => ?_)
    · dsimp only [cI] at h6
      have hz : ¬ inN i 3 := inN_hi (by decide) h6
      refine ru_ic 14 (nI 0) rfl (by decide) rfl ?_
      exact ru_ire rfl rfl (by first | exact (bI_t hz).symm | exact (bI_f hz).symm) (bI_nb _)
    · dsimp only [cI] at h6
      have hz : inN i 3 := inN_of (by decide) h1 h6
      refine ru_ic 10 (nI 1) rfl (by decide) rfl ?_
      refine ru_st 14 rfl rfl ?_
      exact ru_ire rfl rfl (by first | exact (bI_t hz).symm | exact (bI_f hz).symm) (bI_nb _)
theorem inN_gt {i : Int32} {n : Nat} (hn : n + 1 < 2 ^ 31) (h : nI n < i) : ¬ inN i (n + 1) := fun ⟨j, h1, h2⟩ => by
  subst h2
  exact nI_nlt (show j ≤ n by omega) (by omega) h
theorem inN_le {i : Int32} {n : Nat} (hn : n + 1 < 2 ^ 31) (h1 : ¬ i < 0) (h2 : ¬ nI n < i) : inN i (n + 1) := by
  obtain ⟨j, hj, rfl⟩ := nI_of h1
  exact ⟨j, by
    by_cases q : n < j
    · exact absurd (nI_lt q hj) h2
    · omega, rfl⟩
theorem p_X6_isDay (d : Nat) (i : Int32) (G : ma_G) : Ca (d + 1) 43 [.int i] G (.inl (some (.int (bI (inN i 40001)))), G, 0, 0) := by
  refine ca_of rfl ?_
  refine ru_st 1 rfl rfl ?_
  refine ru_ifI 4 rfl rfl (fun h1 => ?_) (fun h1 => ?_)
  · dsimp only [cI] at h1
    have hz : ¬ inN i 40001 := inN_lo (by decide) h1
    refine ru_ic 15 (nI 0) rfl (by decide) rfl ?_
    exact ru_ire rfl rfl (by first | exact (bI_t hz).symm | exact (bI_f hz).symm) (bI_nb _)
  · dsimp only [cI] at h1
    refine ru_st 5 rfl rfl ?_
    refine ru_ld 7 rfl rfl ?_
    refine ru_cmpI 10 rfl rfl (fun h7 => ?_) (fun h7 => ?_)
    · dsimp only [cI] at h7
      have hz : ¬ inN i 40001 := inN_gt (by decide) h7
      refine ru_ic 15 (nI 0) rfl (by decide) rfl ?_
      exact ru_ire rfl rfl (by first | exact (bI_t hz).symm | exact (bI_f hz).symm) (bI_nb _)
    · dsimp only [cI] at h7
      have hz : inN i 40001 := inN_le (by decide) h1 h7
      refine ru_ic 11 (nI 1) rfl (by decide) rfl ?_
      refine ru_st 15 rfl rfl ?_
      exact ru_ire rfl rfl (by first | exact (bI_t hz).symm | exact (bI_f hz).symm) (bI_nb _)
theorem p_X6_isGap (d : Nat) (i : Int32) (G : ma_G) : Ca (d + 1) 35 [.int i] G (.inl (some (.int (bI (inN i 1001)))), G, 0, 0) := by
  refine ca_of rfl ?_
  refine ru_st 1 rfl rfl ?_
  refine ru_ifI 4 rfl rfl (fun h1 => ?_) (fun h1 => ?_)
  · dsimp only [cI] at h1
    have hz : ¬ inN i 1001 := inN_lo (by decide) h1
    refine ru_ic 16 (nI 0) rfl (by decide) rfl ?_
    exact ru_ire rfl rfl (by first | exact (bI_t hz).symm | exact (bI_f hz).symm) (bI_nb _)
  · dsimp only [cI] at h1
    refine ru_st 5 rfl rfl ?_
    refine ru_sp 8 (nI 1000) rfl (by decide) rfl ?_
    refine ru_cmpI 11 rfl rfl (fun h8 => ?_) (fun h8 => ?_)
    · dsimp only [cI] at h8
      have hz : ¬ inN i 1001 := inN_gt (by decide) h8
      refine ru_ic 16 (nI 0) rfl (by decide) rfl ?_
      exact ru_ire rfl rfl (by first | exact (bI_t hz).symm | exact (bI_f hz).symm) (bI_nb _)
    · dsimp only [cI] at h8
      have hz : inN i 1001 := inN_le (by decide) h1 h8
      refine ru_ic 12 (nI 1) rfl (by decide) rfl ?_
      refine ru_st 16 rfl rfl ?_
      exact ru_ire rfl rfl (by first | exact (bI_t hz).symm | exact (bI_f hz).symm) (bI_nb _)
theorem p_X7_isIn (d : Nat) (i : Int32) (n : Nat) (hn : n < 2 ^ 31) (G : ma_G) : Ca (d + 1) 103 [.int i, .int (nI n)] G (.inl (some (.int (bI (inN i n)))), G, 0, 0) := by
  refine ca_of rfl ?_
  refine ru_st 1 rfl rfl ?_
  refine ru_ifI 4 rfl rfl (fun h1 => ?_) (fun h1 => ?_)
  · dsimp only [cI] at h1
    have hz : ¬ inN i n := inN_lo hn h1
    refine ru_ic 14 (nI 0) rfl (by decide) rfl ?_
    exact ru_ire rfl rfl (by first | exact (bI_t hz).symm | exact (bI_f hz).symm) (bI_nb _)
  · dsimp only [cI] at h1
    refine ru_st 5 rfl rfl ?_
    refine ru_st 6 rfl rfl ?_
    refine ru_cmpI 9 rfl rfl (fun h6 => ?_) (fun h6 => ?_)
    · dsimp only [cI] at h6
      have hz : ¬ inN i n := inN_hi hn h6
      refine ru_ic 14 (nI 0) rfl (by decide) rfl ?_
      exact ru_ire rfl rfl (by first | exact (bI_t hz).symm | exact (bI_f hz).symm) (bI_nb _)
    · dsimp only [cI] at h6
      have hz : inN i n := inN_of hn h1 h6
      refine ru_ic 10 (nI 1) rfl (by decide) rfl ?_
      refine ru_st 14 rfl rfl ?_
      exact ru_ire rfl rfl (by first | exact (bI_t hz).symm | exact (bI_f hz).symm) (bI_nb _)
/-- the model: its object at b, its arrays behind it -/
def mLen (k : Nat) : Nat := match k with
  | 0 => 3
  | 1 => 12
  | 2 => 4
  | 3 => 96
  | 4 => 384
  | 5 => 16
  | 6 => 64
  | 7 => 3
  | 8 => 3
  | 9 => 12
  | 10 => 3
  | 11 => 288
  | _ => 12
def mFs (b : Nat) (t cn lt gd : Int32) : List Value := [.int t, .ref (b + 1), .ref (b + 2), .ref (b + 3), .ref (b + 4), .ref (b + 5), .ref (b + 6), .ref (b + 7), .ref (b + 8), .ref (b + 9), .ref (b + 10), .ref (b + 11), .ref (b + 12), .ref (b + 13), .int cn, .int lt, .int gd]
def mdl (b : Nat) (A : Nat → Nat → Int32) (t cn lt gd : Int32) (G : ma_G) : Prop := ma_obj G b 7 = some (mFs b t cn lt gd) ∧ ∀ k, k < 13 → ma_ints G (b + 1 + k) = some (mLen k, A k)
def mIn (b : Nat) : Nat → Prop := fun a => b ≤ a ∧ a < b + 14
theorem mdl.arr {b : Nat} {A : Nat → Nat → Int32} {t cn lt gd : Int32} {G : ma_G} (h : mdl b A t cn lt gd G) (k : Nat) (hk : k < 13) {x n : Nat} (hx : b + 1 + k = x) (hn : mLen k = n) : ma_ints G x = some (n, A k) := by
  subst hx; subst hn
  exact h.2 k hk
theorem mdl.put {b : Nat} {A : Nat → Nat → Int32} {t cn lt gd t' cn' lt' gd' : Int32} {G : ma_G} (h : mdl b A t cn lt gd G) {fs : List Value} (hf : fs = mFs b t' cn' lt' gd') : mdl b A t' cn' lt' gd' (G.set b (.inr (7, fs))) := by
  subst hf
  refine ⟨obj_eq (obj_lt h.1), fun k hk => ?_⟩
  rw [ints_ne (by omega)]
  exact h.2 k hk
theorem mdl.aput {b : Nat} {A : Nat → Nat → Int32} {t cn lt gd : Int32} {G : ma_G} (h : mdl b A t cn lt gd G) (k : Nat) (hk : k < 13) {x n : Nat} {g : Nat → Int32} (hx : b + 1 + k = x) (hn : mLen k = n) : mdl b (va_up A k g) t cn lt gd (G.set x (.inl (0, n, .inl g))) := by
  subst hx; subst hn
  refine ⟨by rw [obj_ne (by omega)]; exact h.1, fun j hj => ?_⟩
  by_cases hjk : j = k
  · subst hjk
    rw [ints_eq (ints_lt (h.2 j hj)), va_up_self]
  · rw [ints_ne (by omega), va_up_ne _ _ hjk]
    exact h.2 j hj
theorem mdl.sm {b : Nat} {A : Nat → Nat → Int32} {t cn lt gd : Int32} {G G' : ma_G} {S : Nat → Prop} (h : mdl b A t cn lt gd G) (hs : sm S G G') (hS : ∀ a, S a → ¬ mIn b a) : mdl b A t cn lt gd G' := by
  refine ⟨by rw [hs.obj (fun q => hS b q ⟨Nat.le_refl _, by omega⟩)]; exact h.1, fun k hk => ?_⟩
  rw [hs.ints (fun q => hS _ q ⟨by omega, by omega⟩)]
  exact h.2 k hk
/-- entry i of book dd is struck by one of the first n -/
def strk (A : Nat → Nat → Int32) (dd : Nat) (i : Int32) (n : Nat) : Prop := ∃ k, k < n ∧ A 3 (24 * dd + k) = nI 2 ∧ A 4 (96 * dd + 4 * k) = i
theorem strk_0 {A : Nat → Nat → Int32} {dd : Nat} {i : Int32} : ¬ strk A dd i 0 := fun ⟨k, h, _⟩ => absurd h (Nat.not_lt_zero k)
theorem strk_s {A : Nat → Nat → Int32} {dd : Nat} {i : Int32} {n : Nat} : strk A dd i (n + 1) ↔ strk A dd i n ∨ (A 3 (24 * dd + n) = nI 2 ∧ A 4 (96 * dd + 4 * n) = i) := by
  constructor
  · rintro ⟨k, h1, h2⟩
    by_cases hk : k = n
    · subst hk; exact Or.inr h2
    · exact Or.inl ⟨k, by omega, h2⟩
  · rintro (⟨k, h1, h2⟩ | h)
    · exact ⟨k, by omega, h2⟩
    · exact ⟨n, by omega, h⟩
theorem p_X7_isStruck (d : Nat) {b : Nat} {A : Nat → Nat → Int32} {t cn lt gd : Int32} {G : ma_G} (hm : mdl b A t cn lt gd G) (dd : Nat) (hd : dd < 4) (i : Int32) (n : Nat) (hn : n ≤ 24) : Ca (d + 1) 107 [.ref b, .int (nI dd), .int i, .int (nI n)] G (.inl (some (.int (bI (strk A dd i n)))), G, 0, 0) := by
  refine ca_of rfl ?_
  have loop : ∀ (m kk : Nat) (v : Int32), kk + m = n → v = bI (strk A dd i kk) → Ru d M_X7_isStruck 6 [some (.ref b), some (.int (nI dd)), some (.int i), some (.int (nI n)), some (.int v), some (.int (nI kk))] [] G (.inl (some (.int (bI (strk A dd i n)))), G, 0, 0) := by
    intro m
    induction m with
    | zero =>
      intro kk v hk hv
      refine ru_st 8 rfl rfl ?_
      refine ru_st 9 rfl rfl ?_
      refine ru_cmpt rfl ((ma_cmpN (by omega) (by omega)).mpr (by show n ≤ kk; omega)) ?_
      refine ru_st 66 rfl rfl ?_
      exact ru_ire rfl rfl (by rw [hv, show kk = n by omega]) (bI_nb _)
    | succ m ih =>
      intro kk v hk hv
      have J : ∀ v' : Int32, v' = bI (strk A dd i (kk + 1)) → Ru d M_X7_isStruck 56 [some (.ref b), some (.int (nI dd)), some (.int i), some (.int (nI n)), some (.int v), some (.int (nI kk))] [.int v'] G (.inl (some (.int (bI (strk A dd i n)))), G, 0, 0) := by
        intro v' hv'
        subst hv'
        refine ru_st 58 rfl rfl ?_
        refine ru_incN 61 _ rfl rfl (nI_1 _) rfl rfl ?_
        refine ru_st 6 rfl rfl ?_
        exact ih (kk + 1) _ (by omega) rfl
      refine ru_st 8 rfl rfl ?_
      refine ru_st 9 rfl rfl ?_
      refine ru_cmpf 12 rfl rfl (by rw [← Bool.not_eq_true, ma_cmpN (by omega) (by omega)]; show ¬ n ≤ kk; omega) ?_
      subst hv
      refine ru_st 14 rfl rfl ?_
      refine ru_ifnB 17 rfl rfl (fun h14 => ?_) (fun h14 => ?_)
      · skip
        have hz : strk A dd i (kk + 1) := strk_s.mpr (Or.inl h14)
        refine ru_ic 52 (nI 1) rfl (by decide) rfl ?_
        refine ru_st 56 rfl rfl ?_
        exact J _ (by first | exact (bI_t hz).symm | exact (bI_f hz).symm)
      · skip
        refine ru_st 18 rfl rfl ?_
        refine ru_getf 21 rfl hm.1 rfl rfl ?_
        refine ru_bp 23 (nI 24) rfl (by decide) rfl ?_
        refine ru_st 24 rfl rfl ?_
        refine ru_mulN 25 rfl rfl ?_
        refine ru_st 27 rfl rfl ?_
        refine ru_addN 28 rfl rfl ?_
        refine ru_ialN 29 rfl (hm.arr 3 (n := 96) (by decide) rfl rfl) (by omega) (by decide) rfl ?_
        refine ru_ic 30 (nI 2) rfl (by decide) rfl ?_
        refine ru_cmpI 33 rfl rfl (fun h30 => ?_) (fun h30 => ?_)
        · dsimp only [cI] at h30
          have hz : ¬ strk A dd i (kk + 1) := fun q => (strk_s.mp q).elim h14 (fun q => h30 q.1)
          refine ru_ic 56 (nI 0) rfl (by decide) rfl ?_
          exact J _ (by first | exact (bI_t hz).symm | exact (bI_f hz).symm)
        · dsimp only [cI] at h30
          refine ru_st 34 rfl rfl ?_
          refine ru_getf 37 rfl hm.1 rfl rfl ?_
          refine ru_bp 39 (nI 96) rfl (by decide) rfl ?_
          refine ru_st 40 rfl rfl ?_
          refine ru_mulN 41 rfl rfl ?_
          refine ru_ic 42 (nI 4) rfl (by decide) rfl ?_
          refine ru_st 44 rfl rfl ?_
          refine ru_mulN 45 rfl rfl ?_
          refine ru_addN 46 rfl rfl ?_
          refine ru_ialN 47 rfl (hm.arr 4 (n := 384) (by decide) rfl rfl) (by omega) (by decide) rfl ?_
          refine ru_st 48 rfl rfl ?_
          refine ru_cmpI 51 rfl rfl (fun h48 => ?_) (fun h48 => ?_)
          · dsimp only [cI] at h48
            have hz : ¬ strk A dd i (kk + 1) := fun q => (strk_s.mp q).elim h14 (fun q => h48 q.2)
            refine ru_ic 56 (nI 0) rfl (by decide) rfl ?_
            exact J _ (by first | exact (bI_t hz).symm | exact (bI_f hz).symm)
          · dsimp only [cI] at h48
            have hz : strk A dd i (kk + 1) := strk_s.mpr (Or.inr ⟨Classical.byContradiction h30, Classical.byContradiction h48⟩)
            refine ru_ic 52 (nI 1) rfl (by decide) rfl ?_
            refine ru_st 56 rfl rfl ?_
            exact J _ (by first | exact (bI_t hz).symm | exact (bI_f hz).symm)
  refine ru_ic 1 (nI 0) rfl (by decide) rfl ?_
  refine ru_st 3 rfl rfl ?_
  refine ru_ic 4 (nI 0) rfl (by decide) rfl ?_
  refine ru_st 6 rfl rfl ?_
  exact loop n 0 _ (by omega) (bI_f strk_0).symm
