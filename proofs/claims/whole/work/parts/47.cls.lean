/-! the class as a whole -/
def shp (G : ma_G) : Prop := ma_obj G 1 6 = some [.ref 2, .ref 6, .ref 7, .ref 32, .ref 45, .ref 47] ∧ (∃ f, ma_refs G 2 = some (2, 3, f) ∧ ∀ v, v < 3 → f v = some (3 + v)) ∧ (∃ f, ma_refs G 6 = some (3, 4, f) ∧ ∀ c, c < 4 → f c = some (8 + 6 * c)) ∧ (∃ f, ma_refs G 7 = some (4, 4, f) ∧ ∀ c, c < 4 → f c = some (11 + 6 * c)) ∧ (∃ f, ma_refs G 32 = some (5, 3, f) ∧ ∀ s, s < 3 → f s = some (33 + 4 * s))
def cBk (A : Nat → Nat → Int32) (n : Nat → Nat) (G : ma_G) : Prop := ∀ c, c < 4 → ∃ K N, bk G (8 + 6 * c) K N (n c) ∧ bkA A c (n c) K N
def cCl (kn : Nat → Nat → Nat) (hr : Nat → Nat → Nat → Nat) (G : ma_G) : Prop := ∀ c, c < 4 → ∃ Kn Hd, cl G (11 + 6 * c) c Kn Hd ∧ clK c kn Kn ∧ clH c hr Hd
def cSt (w my wr : Nat → Nat) (sy : Nat → Nat → Nat) (ls : Nat → List Nat) (G : ma_G) : Prop := ∀ s, s < 3 → ∃ Wk B E, sk G (33 + 4 * s) Wk B E (nI (wr s)) (nI (rdN (w s) (my s))) (nI (w s)) ∧ (∀ e, e < 4 → Wk e = nI (sy s e)) ∧ lstF (fun x => x / 24) B 0 (ls s) ∧ lstF (fun x => x % 24) E 0 (ls s)
def cSc (A : Nat → Nat → Int32) (dz : Nat → Nat) (G : ma_G) : Prop := ∀ v, v < 3 → sc G (3 + v) (dz v) (fun i => A 1 (4 * v + i))
def cRd (A : Nat → Nat → Int32) (n : Nat → Nat) (kn : Nat → Nat → Nat) (hr : Nat → Nat → Nat → Nat) (G : ma_G) : Prop := shp G ∧ cBk A n G ∧ cCl kn hr G
theorem shp.sm {G G' : ma_G} {S : Nat → Prop} (h : shp G) (hs : sm S G G') (h1 : ¬ S 1) (h2 : ¬ S 2) (h6 : ¬ S 6) (h7 : ¬ S 7) (h32 : ¬ S 32) : shp G' := by
  unfold shp
  rw [hs.obj h1, hs.refs h2, hs.refs h6, hs.refs h7, hs.refs h32]
  exact h
theorem cBk.sm {A : Nat → Nat → Int32} {n : Nat → Nat} {G G' : ma_G} {S : Nat → Prop} (h : cBk A n G) (hs : sm S G G') (h0 : ∀ a, 8 ≤ a → a < 32 → ¬ S a) : cBk A n G' := fun c hc => by
  obtain ⟨K, N, hb, hA⟩ := h c hc
  exact ⟨K, N, hb.sm hs (h0 _ (by omega) (by omega)) (h0 _ (by omega) (by omega)) (h0 _ (by omega) (by omega)), hA⟩
theorem cCl.sm {kn : Nat → Nat → Nat} {hr : Nat → Nat → Nat → Nat} {G G' : ma_G} {S : Nat → Prop} (h : cCl kn hr G) (hs : sm S G G') (h0 : ∀ a, 8 ≤ a → a < 32 → ¬ S a) : cCl kn hr G' := fun c hc => by
  obtain ⟨K, N, hb, hA⟩ := h c hc
  exact ⟨K, N, hb.sm hs (h0 _ (by omega) (by omega)) (h0 _ (by omega) (by omega)) (h0 _ (by omega) (by omega)), hA⟩
theorem cSt.sm {w my wr : Nat → Nat} {sy : Nat → Nat → Nat} {ls : Nat → List Nat} {G G' : ma_G} {S : Nat → Prop} (h : cSt w my wr sy ls G) (hs : sm S G G') (h0 : ∀ a, 33 ≤ a → a < 45 → ¬ S a) : cSt w my wr sy ls G' := fun s h3 => by
  obtain ⟨Wk, B, E, hb, hA⟩ := h s h3
  exact ⟨Wk, B, E, hb.sm hs (fun k hk => h0 _ (by omega) (by omega)), hA⟩
theorem cSc.sm {A : Nat → Nat → Int32} {dz : Nat → Nat} {G G' : ma_G} {S : Nat → Prop} (h : cSc A dz G) (hs : sm S G G') (h0 : ∀ a, 3 ≤ a → a < 6 → ¬ S a) : cSc A dz G' := fun v hv => (h v hv).sm hs (h0 _ (by omega) (by omega))
theorem cRd.sm {A : Nat → Nat → Int32} {n : Nat → Nat} {kn : Nat → Nat → Nat} {hr : Nat → Nat → Nat → Nat} {G G' : ma_G} {S : Nat → Prop} (h : cRd A n kn hr G) (hs : sm S G G') (h0 : ∀ a, 1 ≤ a → a < 33 → ¬ S a) : cRd A n kn hr G' :=
  ⟨h.1.sm hs (h0 _ (by omega) (by omega)) (h0 _ (by omega) (by omega)) (h0 _ (by omega) (by omega)) (h0 _ (by omega) (by omega)) (h0 _ (by omega) (by omega)), h.2.1.sm hs (fun a h1 h2 => h0 a (by omega) (by omega)), h.2.2.sm hs (fun a h1 h2 => h0 a (by omega) (by omega))⟩
theorem exU_skip {P : Nat → Prop} {m : Nat} (h : ¬ exU P m) : ∀ k, (∀ a, m ≤ a → a < m + k → ¬ P a) → ¬ exU P (m + k) := by
  intro k
  induction k with
  | zero => intro _; exact h
  | succ k ih => intro hk q; exact (exU_s.mp q).elim (ih (fun a h1 h2 => hk a h1 (by omega))) (hk (m + k) (by omega) (by omega))
theorem sl_skip {F : Nat → Prop} {dy : Nat → Nat} {m : Nat} : ∀ k, (∀ a, m ≤ a → a < m + k → ¬ F a) → sl F dy (m + k) = sl F dy m := by
  intro k
  induction k with
  | zero => intro _; rfl
  | succ k ih => intro hk; rw [← Nat.add_assoc, sl_n (hk (m + k) (by omega) (by omega))]; exact ih (fun a h1 h2 => hk a h1 (by omega))
theorem sumK_skip {A : Nat → Nat → Int32} {kn : Nat → Nat → Nat} {c m : Nat} : ∀ k, (∀ a, m ≤ a → a < m + k → ¬ isK kn c a) → sumK A kn c (m + k) = sumK A kn c m := by
  intro k
  induction k with
  | zero => intro _; rfl
  | succ k ih => intro hk; rw [← Nat.add_assoc, sumK_n (hk (m + k) (by omega) (by omega)), ih (fun a h1 h2 => hk a h1 (by omega))]; exact Int64.add_zero _
theorem p_X6_isRecalled (d : Nat) {G : ma_G} {A : Nat → Nat → Int32} {n : Nat → Nat} {kn : Nat → Nat → Nat} {hr : Nat → Nat → Nat → Nat} (hR : cRd A n kn hr G) (hk : mKn A n kn) (c : Nat) (hc : c < 4) (lot day : Int32) : Ca (d + 3) 81 [.ref 1, .int (nI c), .int lot, .int day] G (.inl (some (.int (bI (rcl A kn c lot day 96)))), G, 0, 0) := by
  refine ca_of rfl ?_
  obtain ⟨⟨hx, ⟨f2, hf2, hf2b⟩, ⟨f6, hf6, hf6b⟩, ⟨f7, hf7, hf7b⟩, ⟨f32, hf32, hf32b⟩⟩, hbk, hcl⟩ := hR
  obtain ⟨Kn, Hd, hl, hK, hH⟩ := hcl c hc
  have outer : ∀ (m dd : Nat) (o5 : Option Value), dd + m = 4 → ¬ exU (rc1 A kn c lot day) (24 * dd) → Ru (d + 2) M_X6_isRecalled 3 [some (.ref 1), some (.int (nI c)), some (.int lot), some (.int day), some (.int (nI dd)), o5] [] G (.inl (some (.int (bI (rcl A kn c lot day 96)))), G, 0, 0) := by
    intro m
    induction m with
    | zero =>
      intro dd o5 hdd hinv
      obtain rfl : dd = 4 := by omega
      refine ru_st 5 rfl rfl ?_
      refine ru_ic 6 (nI 4) rfl (by decide) rfl ?_
      refine ru_cmpt rfl ((ma_cmpN (by omega) (by omega)).mpr (by show 4 ≤ 4; omega)) ?_
      refine ru_ic 60 (nI 0) rfl (by decide) rfl ?_
      exact ru_ire rfl rfl (bI_f hinv).symm (bI_nb _)
    | succ m ih =>
      intro dd o5 hdd hinv
      have hd4 : dd < 4 := by omega
      obtain ⟨K, N, hb, hA⟩ := hbk dd hd4
      have hkn := hk.2 c dd hc hd4
      have hn24 := (hk.1 dd hd4).2
      have inner : ∀ (z i : Nat) (u : Unit), i + z = kn c dd → ¬ exU (rc1 A kn c lot day) (24 * dd + i) → Ru (d + 2) M_X6_isRecalled 12 [some (.ref 1), some (.int (nI c)), some (.int lot), some (.int day), some (.int (nI dd)), some (.int (nI i))] [] G (.inl (some (.int (bI (rcl A kn c lot day 96)))), G, 0, 0) := by
        intro z
        induction z with
        | zero =>
          intro i u hi hinv
          obtain rfl : i = kn c dd := by omega
          refine ru_st 14 rfl rfl ?_
          refine ru_st 15 rfl rfl ?_
          refine ru_getf 18 rfl hx rfl rfl ?_
          refine ru_st 19 rfl rfl ?_
          refine ru_aalN 20 rfl hf7 (by omega) (by decide) (hf7b c hc) rfl ?_
          refine ru_st 22 rfl rfl ?_
          refine ru_call [_, _] _ 25 rfl rfl rfl rfl rfl (Nat.le_of_ble_eq_true rfl) (cats rfl) (rcv_s rfl hl.1) (p_X1_knows (d) hl hK dd hd4) rfl ?_
          refine ru_cmpt rfl ((ma_cmpN (by omega) (by omega)).mpr (by show kn c dd ≤ kn c dd; omega)) ?_
          refine ru_incN 56 _ rfl rfl (nI_1 _) rfl rfl ?_
          refine ru_st 3 rfl rfl ?_
          have hsk := (exU_skip (P := rc1 A kn c lot day) hinv (24 - kn c dd) (fun a h1 h2 => fun q => isK_no h1 (by omega) q.1.1))
          rw [show 24 * dd + kn c dd + (24 - kn c dd) = 24 * (dd + 1) by omega] at hsk
          exact ih (dd + 1) _ (by omega) hsk
        | succ z ihi =>
          intro i u hi hinv
          have hiK : isK kn c (24 * dd + i) := isK_yes (by omega) (by omega)
          refine ru_st 14 rfl rfl ?_
          refine ru_st 15 rfl rfl ?_
          refine ru_getf 18 rfl hx rfl rfl ?_
          refine ru_st 19 rfl rfl ?_
          refine ru_aalN 20 rfl hf7 (by omega) (by decide) (hf7b c hc) rfl ?_
          refine ru_st 22 rfl rfl ?_
          refine ru_call [_, _] _ 25 rfl rfl rfl rfl rfl (Nat.le_of_ble_eq_true rfl) (cats rfl) (rcv_s rfl hl.1) (p_X1_knows (d) hl hK dd hd4) rfl ?_
          refine ru_cmpf 28 rfl rfl (by rw [← Bool.not_eq_true, ma_cmpN (by omega) (by omega)]; show ¬ kn c dd ≤ i; omega) ?_
          refine ru_st 29 rfl rfl ?_
          refine ru_getf 32 rfl hx rfl rfl ?_
          refine ru_st 34 rfl rfl ?_
          refine ru_aalN 35 rfl hf6 (by omega) (by decide) (hf6b dd hd4) rfl ?_
          refine ru_st 37 rfl rfl ?_
          refine ru_st 38 rfl rfl ?_
          refine ru_st 39 rfl rfl ?_
          refine ru_call [_, _, _, _] _ 42 rfl rfl rfl rfl rfl (Nat.le_of_ble_eq_true rfl) (cats rfl) (rcv_s rfl hb.1) (p_X0_recalls d hb hn24 hA i (by omega) lot day) rfl ?_
          refine ru_ifB 45 rfl rfl (fun h42 => ?_) (fun h42 => ?_)
          · skip
            refine ru_incN 50 _ rfl rfl (nI_1 _) rfl rfl ?_
            refine ru_st 12 rfl rfl ?_
            exact ihi (i + 1) () (by omega) (fun q => (exU_s.mp q).elim hinv (fun q => h42 ⟨q.1.2.1, q.1.2.2, q.2⟩))
          · skip
            refine ru_ic 46 (nI 1) rfl (by decide) rfl ?_
            exact ru_ire rfl rfl (bI_t ⟨24 * dd + i, by omega, ⟨hiK, h42.1, h42.2.1⟩, h42.2.2⟩).symm (bI_nb _)
      refine ru_st 5 rfl rfl ?_
      refine ru_ic 6 (nI 4) rfl (by decide) rfl ?_
      refine ru_cmpf 9 rfl rfl (by rw [← Bool.not_eq_true, ma_cmpN (by omega) (by omega)]; show ¬ 4 ≤ dd; omega) ?_
      refine ru_ic 10 (nI 0) rfl (by decide) rfl ?_
      refine ru_st 12 rfl rfl ?_
      exact inner (kn c dd) 0 () (by omega) hinv
  refine ru_ic 1 (nI 0) rfl (by decide) rfl ?_
  refine ru_st 3 rfl rfl ?_
  exact outer 4 0 _ (by omega) exU_0
theorem p_X6_hasUnstruckDose (d : Nat) {G : ma_G} {A : Nat → Nat → Int32} {n : Nat → Nat} {kn : Nat → Nat → Nat} {hr : Nat → Nat → Nat → Nat} (hR : cRd A n kn hr G) (hk : mKn A n kn) (c : Nat) (hc : c < 4) (p : Nat) (lot : Int32) : Ca (d + 3) 22 [.ref 1, .int (nI c), .int (nI p), .int lot] G (.inl (some (.int (bI (exU (lo1 A kn c p lot) 96)))), G, 0, 0) := by
  refine ca_of rfl ?_
  obtain ⟨⟨hx, ⟨f2, hf2, hf2b⟩, ⟨f6, hf6, hf6b⟩, ⟨f7, hf7, hf7b⟩, ⟨f32, hf32, hf32b⟩⟩, hbk, hcl⟩ := hR
  obtain ⟨Kn, Hd, hl, hK, hH⟩ := hcl c hc
  have outer : ∀ (m dd : Nat) (o5 o6 : Option Value), dd + m = 4 → ¬ exU (lo1 A kn c p lot) (24 * dd) → Ru (d + 2) M_X6_hasUnstruckDose 3 [some (.ref 1), some (.int (nI c)), some (.int (nI p)), some (.int lot), some (.int (nI dd)), o5, o6] [] G (.inl (some (.int (bI (exU (lo1 A kn c p lot) 96)))), G, 0, 0) := by
    intro m
    induction m with
    | zero =>
      intro dd o5 o6 hdd hinv
      obtain rfl : dd = 4 := by omega
      refine ru_st 5 rfl rfl ?_
      refine ru_ic 6 (nI 4) rfl (by decide) rfl ?_
      refine ru_cmpt rfl ((ma_cmpN (by omega) (by omega)).mpr (by show 4 ≤ 4; omega)) ?_
      refine ru_ic 81 (nI 0) rfl (by decide) rfl ?_
      exact ru_ire rfl rfl (bI_f hinv).symm (bI_nb _)
    | succ m ih =>
      intro dd o5 o6 hdd hinv
      have hd4 : dd < 4 := by omega
      obtain ⟨K, N, hb, hA⟩ := hbk dd hd4
      have hkn := hk.2 c dd hc hd4
      have hn24 := (hk.1 dd hd4).2
      have inner : ∀ (z i : Nat) (u : Unit), i + z = kn c dd → ¬ exU (lo1 A kn c p lot) (24 * dd + i) → Ru (d + 2) M_X6_hasUnstruckDose 25 [some (.ref 1), some (.int (nI c)), some (.int (nI p)), some (.int lot), some (.int (nI dd)), some (.int (nI (kn c dd))), some (.int (nI i))] [] G (.inl (some (.int (bI (exU (lo1 A kn c p lot) 96)))), G, 0, 0) := by
        intro z
        induction z with
        | zero =>
          intro i u hi hinv
          obtain rfl : i = kn c dd := by omega
          refine ru_st 27 rfl rfl ?_
          refine ru_st 29 rfl rfl ?_
          refine ru_cmpt rfl ((ma_cmpN (by omega) (by omega)).mpr (by show kn c dd ≤ kn c dd; omega)) ?_
          refine ru_incN 77 _ rfl rfl (nI_1 _) rfl rfl ?_
          refine ru_st 3 rfl rfl ?_
          have hsk := (exU_skip (P := lo1 A kn c p lot) hinv (24 - kn c dd) (fun a h1 h2 => fun q => isK_no h1 (by omega) q.1.1))
          rw [show 24 * dd + kn c dd + (24 - kn c dd) = 24 * (dd + 1) by omega] at hsk
          exact ih (dd + 1) _ _ (by omega) hsk
        | succ z ihi =>
          intro i u hi hinv
          have hiK : isK kn c (24 * dd + i) := isK_yes (by omega) (by omega)
          refine ru_st 27 rfl rfl ?_
          refine ru_st 29 rfl rfl ?_
          refine ru_cmpf 32 rfl rfl (by rw [← Bool.not_eq_true, ma_cmpN (by omega) (by omega)]; show ¬ kn c dd ≤ i; omega) ?_
          refine ru_st 33 rfl rfl ?_
          refine ru_getf 36 rfl hx rfl rfl ?_
          refine ru_st 38 rfl rfl ?_
          refine ru_aalN 39 rfl hf6 (by omega) (by decide) (hf6b dd hd4) rfl ?_
          refine ru_st 41 rfl rfl ?_
          refine ru_st 42 rfl rfl ?_
          refine ru_st 43 rfl rfl ?_
          refine ru_call [_, _, _, _] _ 46 rfl rfl rfl rfl rfl (Nat.le_of_ble_eq_true rfl) (cats rfl) (rcv_s rfl hb.1) (p_X0_gave d hb hn24 hA i (by omega) (nI p) lot) rfl ?_
          refine ru_ifB 49 rfl rfl (fun h46 => ?_) (fun h46 => ?_)
          · skip
            refine ru_incN 71 _ rfl rfl (nI_1 _) rfl rfl ?_
            refine ru_st 25 rfl rfl ?_
            first
              | exact ihi (i + 1) () (by omega) (fun q => (exU_s.mp q).elim hinv (fun q => h46 ⟨q.1.2.1, q.1.2.2.1, q.1.2.2.2⟩))
              | exact ihi (i + 1) () (by omega) (fun q => ((exU_s (m := 24 * dd + i)).mp q).elim hinv (fun q => by have q2 := q.2; rw [show (24 * dd + i) / 24 = dd by omega, show (24 * dd + i) % 24 = i by omega] at q2; exact q2 h63))
          · skip
            refine ru_st 50 rfl rfl ?_
            refine ru_getf 53 rfl hx rfl rfl ?_
            refine ru_st 55 rfl rfl ?_
            refine ru_aalN 56 rfl hf6 (by omega) (by decide) (hf6b dd hd4) rfl ?_
            refine ru_st 58 rfl rfl ?_
            refine ru_st 60 rfl rfl ?_
            refine ru_call [_, _, _] _ 63 rfl rfl rfl rfl rfl (Nat.le_of_ble_eq_true rfl) (cats rfl) (rcv_s rfl hb.1) (p_X0_isStruck d hb hn24 hA (nI i) (kn c dd) hkn.2) rfl ?_
            refine ru_ifnB 66 rfl rfl (fun h63 => ?_) (fun h63 => ?_)
            · skip
              refine ru_incN 71 _ rfl rfl (nI_1 _) rfl rfl ?_
              refine ru_st 25 rfl rfl ?_
              first
                | exact ihi (i + 1) () (by omega) (fun q => (exU_s.mp q).elim hinv (fun q => h46 ⟨q.1.2.1, q.1.2.2.1, q.1.2.2.2⟩))
                | exact ihi (i + 1) () (by omega) (fun q => ((exU_s (m := 24 * dd + i)).mp q).elim hinv (fun q => by have q2 := q.2; rw [show (24 * dd + i) / 24 = dd by omega, show (24 * dd + i) % 24 = i by omega] at q2; exact q2 h63))
            · skip
              refine ru_ic 67 (nI 1) rfl (by decide) rfl ?_
              exact ru_ire rfl rfl (bI_t ⟨24 * dd + i, by omega, ⟨hiK, h46.1, h46.2.1, h46.2.2⟩, by rw [show (24 * dd + i) / 24 = dd by omega, show (24 * dd + i) % 24 = i by omega]; exact h63⟩).symm (bI_nb _)
      refine ru_st 5 rfl rfl ?_
      refine ru_ic 6 (nI 4) rfl (by decide) rfl ?_
      refine ru_cmpf 9 rfl rfl (by rw [← Bool.not_eq_true, ma_cmpN (by omega) (by omega)]; show ¬ 4 ≤ dd; omega) ?_
      refine ru_st 10 rfl rfl ?_
      refine ru_getf 13 rfl hx rfl rfl ?_
      refine ru_st 14 rfl rfl ?_
      refine ru_aalN 15 rfl hf7 (by omega) (by decide) (hf7b c hc) rfl ?_
      refine ru_st 17 rfl rfl ?_
      refine ru_call [_, _] _ 20 rfl rfl rfl rfl rfl (Nat.le_of_ble_eq_true rfl) (cats rfl) (rcv_s rfl hl.1) (p_X1_knows (d) hl hK dd hd4) rfl ?_
      refine ru_st 22 rfl rfl ?_
      refine ru_ic 23 (nI 0) rfl (by decide) rfl ?_
      refine ru_st 25 rfl rfl ?_
      exact inner (kn c dd) 0 () (by omega) hinv
  refine ru_ic 1 (nI 0) rfl (by decide) rfl ?_
  refine ru_st 3 rfl rfl ?_
  exact outer 4 0 _ _ (by omega) exU_0
theorem p_require_y (d : Nat) {P : Prop} (h : P) (G : ma_G) : Ca (d + 1) 34 [.int (bI P)] G (.inl none, G, 0, 0) := by
  refine ca_of rfl ?_
  refine ru_st 1 rfl rfl ?_
  refine ru_ift rfl ((bI_if _).2.mpr h) ?_
  exact ru_vret rfl rfl
theorem p_require_n (d : Nat) {P : Prop} (h : ¬ P) (G : ma_G) : Ca (d + 3) 34 [.int (bI P)] G (.inr 8001, G, 1, 6) := by
  refine ca_of rfl ?_
  refine ru_st 1 rfl rfl ?_
  refine ru_iff 4 rfl rfl (by rw [← Bool.not_eq_true, (bI_if _).2]; exact h) ?_
  exact ru_thr rfl (by decide) (by decide) (by omega) rfl (Nat.le_of_ble_eq_true rfl)
theorem p_reqClinic_y (d : Nat) {i : Int32} (h : inN i 4) (G : ma_G) : Ca (d + 2) 41 [.int i] G (.inl none, G, 0, 0) := by
  refine ca_of rfl ?_
  refine ru_st 1 rfl rfl ?_
  refine ru_call [_] _ 4 rfl rfl rfl rfl rfl (Nat.le_of_ble_eq_true rfl) (cats rfl) (rcv_n rfl) (p_X6_isClinic d _ _) rfl ?_
  refine ru_call [_] _ 7 rfl rfl rfl rfl rfl (Nat.le_of_ble_eq_true rfl) (cats rfl) (rcv_n rfl) (p_require_y d h _) rfl ?_
  exact ru_vret rfl rfl
theorem p_reqClinic_n (d : Nat) {i : Int32} (h : ¬ inN i 4) (G : ma_G) : Ca (d + 4) 41 [.int i] G (.inr 8001, G, 1, 6) := by
  refine ca_of rfl ?_
  refine ru_st 1 rfl rfl ?_
  refine ru_call [_] _ 4 rfl rfl rfl rfl rfl (Nat.le_of_ble_eq_true rfl) (cats rfl) (rcv_n rfl) (p_X6_isClinic (d + 2) _ _) rfl ?_
  exact ru_callt [_] _ rfl rfl rfl rfl rfl (Nat.le_of_ble_eq_true rfl) (cats rfl) (rcv_n rfl) (p_require_n d h _) rfl rfl
theorem p_reqPerson_y (d : Nat) {i : Int32} (h : inN i 12) (G : ma_G) : Ca (d + 2) 42 [.int i] G (.inl none, G, 0, 0) := by
  refine ca_of rfl ?_
  refine ru_st 1 rfl rfl ?_
  refine ru_call [_] _ 4 rfl rfl rfl rfl rfl (Nat.le_of_ble_eq_true rfl) (cats rfl) (rcv_n rfl) (p_X6_isPerson d _ _) rfl ?_
  refine ru_call [_] _ 7 rfl rfl rfl rfl rfl (Nat.le_of_ble_eq_true rfl) (cats rfl) (rcv_n rfl) (p_require_y d h _) rfl ?_
  exact ru_vret rfl rfl
theorem p_reqPerson_n (d : Nat) {i : Int32} (h : ¬ inN i 12) (G : ma_G) : Ca (d + 4) 42 [.int i] G (.inr 8001, G, 1, 6) := by
  refine ca_of rfl ?_
  refine ru_st 1 rfl rfl ?_
  refine ru_call [_] _ 4 rfl rfl rfl rfl rfl (Nat.le_of_ble_eq_true rfl) (cats rfl) (rcv_n rfl) (p_X6_isPerson (d + 2) _ _) rfl ?_
  exact ru_callt [_] _ rfl rfl rfl rfl rfl (Nat.le_of_ble_eq_true rfl) (cats rfl) (rcv_n rfl) (p_require_n d h _) rfl rfl
theorem p_reqStick_y (d : Nat) {i : Int32} (h : inN i 3) (G : ma_G) : Ca (d + 2) 56 [.int i] G (.inl none, G, 0, 0) := by
  refine ca_of rfl ?_
  refine ru_st 1 rfl rfl ?_
  refine ru_call [_] _ 4 rfl rfl rfl rfl rfl (Nat.le_of_ble_eq_true rfl) (cats rfl) (rcv_n rfl) (p_X6_isStick d _ _) rfl ?_
  refine ru_call [_] _ 7 rfl rfl rfl rfl rfl (Nat.le_of_ble_eq_true rfl) (cats rfl) (rcv_n rfl) (p_require_y d h _) rfl ?_
  exact ru_vret rfl rfl
theorem p_reqStick_n (d : Nat) {i : Int32} (h : ¬ inN i 3) (G : ma_G) : Ca (d + 4) 56 [.int i] G (.inr 8001, G, 1, 6) := by
  refine ca_of rfl ?_
  refine ru_st 1 rfl rfl ?_
  refine ru_call [_] _ 4 rfl rfl rfl rfl rfl (Nat.le_of_ble_eq_true rfl) (cats rfl) (rcv_n rfl) (p_X6_isStick (d + 2) _ _) rfl ?_
  exact ru_callt [_] _ rfl rfl rfl rfl rfl (Nat.le_of_ble_eq_true rfl) (cats rfl) (rcv_n rfl) (p_require_n d h _) rfl rfl
theorem p_reqVaccine_y (d : Nat) {i : Int32} (h : inN i 3) (G : ma_G) : Ca (d + 2) 33 [.int i] G (.inl none, G, 0, 0) := by
  refine ca_of rfl ?_
  have J : ∀ u : Int32, u = bI (inN i 3) → Ru (d + 1) M_X6_requireVaccine 14 [some (.int i)] [.int u] G (.inl none, G, 0, 0) := by
    intro u hu
    subst hu
    refine ru_call [_] _ 17 rfl rfl rfl rfl rfl (Nat.le_of_ble_eq_true rfl) (cats rfl) (rcv_n rfl) (p_require_y d h _) rfl ?_
    exact ru_vret rfl rfl
  refine ru_st 1 rfl rfl ?_
  refine ru_ifI 4 rfl rfl (fun h1 => ?_) (fun h1 => ?_)
  · dsimp only [cI] at h1
    have hz : ¬ inN i 3 := inN_lo (by decide) h1
    refine ru_ic 14 (nI 0) rfl (by decide) rfl ?_
    exact J _ (by first | exact (bI_t hz).symm | exact (bI_f hz).symm)
  · dsimp only [cI] at h1
    refine ru_st 5 rfl rfl ?_
    refine ru_ic 6 (nI 3) rfl (by decide) rfl ?_
    refine ru_cmpI 9 rfl rfl (fun h6 => ?_) (fun h6 => ?_)
    · dsimp only [cI] at h6
      have hz : ¬ inN i 3 := inN_hi (by decide) h6
      refine ru_ic 14 (nI 0) rfl (by decide) rfl ?_
      exact J _ (by first | exact (bI_t hz).symm | exact (bI_f hz).symm)
    · dsimp only [cI] at h6
      have hz : inN i 3 := inN_of (by decide) h1 h6
      refine ru_ic 10 (nI 1) rfl (by decide) rfl ?_
      refine ru_st 14 rfl rfl ?_
      exact J _ (by first | exact (bI_t hz).symm | exact (bI_f hz).symm)
theorem p_reqVaccine_n (d : Nat) {i : Int32} (h : ¬ inN i 3) (G : ma_G) : Ca (d + 4) 33 [.int i] G (.inr 8001, G, 1, 6) := by
  refine ca_of rfl ?_
  have J : ∀ u : Int32, u = bI (inN i 3) → Ru (d + 3) M_X6_requireVaccine 14 [some (.int i)] [.int u] G (.inr 8001, G, 1, 6) := by
    intro u hu
    subst hu
    exact ru_callt [_] _ rfl rfl rfl rfl rfl (Nat.le_of_ble_eq_true rfl) (cats rfl) (rcv_n rfl) (p_require_n d h _) rfl rfl
  refine ru_st 1 rfl rfl ?_
  refine ru_ifI 4 rfl rfl (fun h1 => ?_) (fun h1 => ?_)
  · dsimp only [cI] at h1
    have hz : ¬ inN i 3 := inN_lo (by decide) h1
    refine ru_ic 14 (nI 0) rfl (by decide) rfl ?_
    exact J _ (by first | exact (bI_t hz).symm | exact (bI_f hz).symm)
  · dsimp only [cI] at h1
    refine ru_st 5 rfl rfl ?_
    refine ru_ic 6 (nI 3) rfl (by decide) rfl ?_
    refine ru_cmpI 9 rfl rfl (fun h6 => ?_) (fun h6 => ?_)
    · dsimp only [cI] at h6
      have hz : ¬ inN i 3 := inN_hi (by decide) h6
      refine ru_ic 14 (nI 0) rfl (by decide) rfl ?_
      exact J _ (by first | exact (bI_t hz).symm | exact (bI_f hz).symm)
    · dsimp only [cI] at h6
      have hz : inN i 3 := inN_of (by decide) h1 h6
      refine ru_ic 10 (nI 1) rfl (by decide) rfl ?_
      refine ru_st 14 rfl rfl ?_
      exact J _ (by first | exact (bI_t hz).symm | exact (bI_f hz).symm)
theorem p_X6_sum (d : Nat) {G : ma_G} {A : Nat → Nat → Int32} {n : Nat → Nat} {kn : Nat → Nat → Nat} {hr : Nat → Nat → Nat → Nat} (hR : cRd A n kn hr G) (hk : mKn A n kn) (c : Nat) (hc : c < 4) : Ca (d + 3) 98 [.ref 1, .int (nI c)] G (.inl (some (.long (sumK A kn c 96))), G, 0, 0) := by
  refine ca_of rfl ?_
  obtain ⟨⟨hx, ⟨f2, hf2, hf2b⟩, ⟨f6, hf6, hf6b⟩, ⟨f7, hf7, hf7b⟩, ⟨f32, hf32, hf32b⟩⟩, hbk, hcl⟩ := hR
  obtain ⟨Kn, Hd, hl, hK, hH⟩ := hcl c hc
  have outer : ∀ (m dd : Nat) (v : Int64) (o5 : Option Value), dd + m = 4 → v = sumK A kn c (24 * dd) → Ru (d + 2) M_X6_sum 9 [some (.ref 1), some (.int (nI c)), some (.long v), none, some (.int (nI dd)), o5] [] G (.inl (some (.long (sumK A kn c 96))), G, 0, 0) := by
    intro m
    induction m with
    | zero =>
      intro dd v o5 hdd hinv
      obtain rfl : dd = 4 := by omega
      refine ru_st 11 rfl rfl ?_
      refine ru_ic 12 (nI 4) rfl (by decide) rfl ?_
      refine ru_cmpt rfl ((ma_cmpN (by omega) (by omega)).mpr (by show 4 ≤ 4; omega)) ?_
      refine ru_st 64 rfl rfl ?_
      subst hinv
      exact ru_lret rfl rfl
    | succ m ih =>
      intro dd v o5 hdd hinv
      have hd4 : dd < 4 := by omega
      obtain ⟨K, N, hb, hA⟩ := hbk dd hd4
      have hkn := hk.2 c dd hc hd4
      have hn24 := (hk.1 dd hd4).2
      have inner : ∀ (z i : Nat) (v : Int64), i + z = kn c dd → v = sumK A kn c (24 * dd + i) → Ru (d + 2) M_X6_sum 18 [some (.ref 1), some (.int (nI c)), some (.long v), none, some (.int (nI dd)), some (.int (nI i))] [] G (.inl (some (.long (sumK A kn c 96))), G, 0, 0) := by
        intro z
        induction z with
        | zero =>
          intro i v hi hinv
          obtain rfl : i = kn c dd := by omega
          refine ru_st 20 rfl rfl ?_
          refine ru_st 21 rfl rfl ?_
          refine ru_getf 24 rfl hx rfl rfl ?_
          refine ru_st 25 rfl rfl ?_
          refine ru_aalN 26 rfl hf7 (by omega) (by decide) (hf7b c hc) rfl ?_
          refine ru_st 28 rfl rfl ?_
          refine ru_call [_, _] _ 31 rfl rfl rfl rfl rfl (Nat.le_of_ble_eq_true rfl) (cats rfl) (rcv_s rfl hl.1) (p_X1_knows (d) hl hK dd hd4) rfl ?_
          refine ru_cmpt rfl ((ma_cmpN (by omega) (by omega)).mpr (by show kn c dd ≤ kn c dd; omega)) ?_
          refine ru_incN 60 _ rfl rfl (nI_1 _) rfl rfl ?_
          refine ru_st 9 rfl rfl ?_
          have hsk := (sumK_skip (A := A) (kn := kn) (c := c) (m := 24 * dd + kn c dd) (24 - kn c dd) (fun a h1 h2 => isK_no h1 (by omega)))
          rw [show 24 * dd + kn c dd + (24 - kn c dd) = 24 * (dd + 1) by omega] at hsk
          exact ih (dd + 1) _ _ (by omega) (hinv.trans hsk.symm)
        | succ z ihi =>
          intro i v hi hinv
          have hiK : isK kn c (24 * dd + i) := isK_yes (by omega) (by omega)
          refine ru_st 20 rfl rfl ?_
          refine ru_st 21 rfl rfl ?_
          refine ru_getf 24 rfl hx rfl rfl ?_
          refine ru_st 25 rfl rfl ?_
          refine ru_aalN 26 rfl hf7 (by omega) (by decide) (hf7b c hc) rfl ?_
          refine ru_st 28 rfl rfl ?_
          refine ru_call [_, _] _ 31 rfl rfl rfl rfl rfl (Nat.le_of_ble_eq_true rfl) (cats rfl) (rcv_s rfl hl.1) (p_X1_knows (d) hl hK dd hd4) rfl ?_
          refine ru_cmpf 34 rfl rfl (by rw [← Bool.not_eq_true, ma_cmpN (by omega) (by omega)]; show ¬ kn c dd ≤ i; omega) ?_
          refine ru_st 35 rfl rfl ?_
          refine ru_st 36 rfl rfl ?_
          refine ru_getf 39 rfl hx rfl rfl ?_
          refine ru_st 41 rfl rfl ?_
          refine ru_aalN 42 rfl hf6 (by omega) (by decide) (hf6b dd hd4) rfl ?_
          refine ru_st 44 rfl rfl ?_
          refine ru_st 46 rfl rfl ?_
          refine ru_call [_, _, _] _ 49 rfl rfl rfl rfl rfl (Nat.le_of_ble_eq_true rfl) (cats rfl) (rcv_s rfl hb.1) (p_X0_valueOf d hb hn24 hA i (by omega)) rfl ?_
          refine ru_st 50 rfl rfl ?_
          refine ru_st 51 rfl rfl ?_
          refine ru_incN 54 _ rfl rfl (nI_1 _) rfl rfl ?_
          refine ru_st 18 rfl rfl ?_
          exact ihi (i + 1) _ (by omega) (by rw [hinv, show 24 * dd + (i + 1) = 24 * dd + i + 1 by omega, sumK_y hiK])
      refine ru_st 11 rfl rfl ?_
      refine ru_ic 12 (nI 4) rfl (by decide) rfl ?_
      refine ru_cmpf 15 rfl rfl (by rw [← Bool.not_eq_true, ma_cmpN (by omega) (by omega)]; show ¬ 4 ≤ dd; omega) ?_
      refine ru_ic 16 (nI 0) rfl (by decide) rfl ?_
      refine ru_st 18 rfl rfl ?_
      exact inner (kn c dd) 0 _ (by omega) hinv
  refine ru_st 1 rfl rfl ?_
  refine ru_call [_] _ 4 rfl rfl rfl rfl rfl (Nat.le_of_ble_eq_true rfl) (cats rfl) (rcv_n rfl) (p_reqClinic_y d ⟨c, hc, rfl⟩ _) rfl ?_
  refine ru_st 5 rfl rfl ?_
  refine ru_st 6 rfl rfl ?_
  refine ru_ic 7 (nI 0) rfl (by decide) rfl ?_
  refine ru_st 9 rfl rfl ?_
  exact outer 4 0 _ _ (by omega) rfl
theorem p_X6_sum_bad (d : Nat) {G : ma_G} {c : Int32} (h : ¬ inN c 4) : Ca (d + 5) 98 [.ref 1, .int c] G (.inr 8001, G, 1, 6) := by
  refine ca_of rfl ?_
  refine ru_st 1 rfl rfl ?_
  exact ru_callt [_] _ rfl rfl rfl rfl rfl (Nat.le_of_ble_eq_true rfl) (cats rfl) (rcv_n rfl) (p_reqClinic_n d h _) rfl rfl
