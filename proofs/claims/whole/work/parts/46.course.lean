/-! the class: a course -/
def co (G : ma_G) (a : Nat) (D : Nat → Int32) (sz k : Nat) (ld : Int32) : Prop := ma_obj G a 2 = some [.ref (a + 1), .int (nI sz), .int (nI k), .int ld] ∧ ma_ints G (a + 1) = some (96, D)
theorem co.sm {G G' : ma_G} {a : Nat} {D : Nat → Int32} {sz k : Nat} {ld : Int32} {S : Nat → Prop} (h : co G a D sz k ld) (hs : sm S G G') (h0 : ¬ S a) (h1 : ¬ S (a + 1)) : co G' a D sz k ld := by
  refine ⟨?_, ?_⟩
  · rw [hs.obj h0]; exact h.1
  · rw [hs.ints h1]; exact h.2
theorem co.pd {G : ma_G} {a : Nat} {D : Nat → Int32} {sz k : Nat} {ld : Int32} (h : co G a D sz k ld) {g : Nat → Int32} : co (G.set (a + 1) (.inl (0, 96, .inl g))) a g sz k ld := by
  refine ⟨?_, ints_eq (ints_lt h.2)⟩
  rw [obj_ne (by omega)]; exact h.1
theorem co.po {G : ma_G} {a : Nat} {D : Nat → Int32} {sz k : Nat} {ld : Int32} (h : co G a D sz k ld) {sz' k' : Nat} {ld' : Int32} {fs : List Value} (hf : fs = [.ref (a + 1), .int (nI sz'), .int (nI k'), .int ld']) : co (G.set a (.inr (2, fs))) a D sz' k' ld' := by
  subst hf
  refine ⟨obj_eq (obj_lt h.1), ?_⟩
  rw [ints_ne (by omega)]; exact h.2
def cIn2 (a : Nat) : Nat → Prop := fun x => a ≤ x ∧ x < a + 2
theorem cIn2_0 {a : Nat} : cIn2 a a := ⟨by omega, by omega⟩
theorem cIn2_1 {a : Nat} : cIn2 a (a + 1) := ⟨by omega, by omega⟩
def coQ2 (G : ma_G) (a : Nat) (Pc : (Nat → Int32) → Nat → Nat → Int32 → Prop) (r : Option Value) (G' : ma_G) : Prop := r = none ∧ sm (cIn2 a) G G' ∧ ∃ D sz k ld, co G' a D sz k ld ∧ Pc D sz k ld
/-- sorted lists -/
theorem ins_srt {x : Nat} : ∀ l : List Nat, l.Pairwise (· ≤ ·) → (ins x l).Pairwise (· ≤ ·) := by
  intro l
  induction l with
  | nil => intro _; rw [ins]; exact List.pairwise_singleton _ _
  | cons y l ih =>
    intro h
    have h1 := List.pairwise_cons.mp h
    rw [ins]
    split
    · refine List.pairwise_cons.mpr ⟨fun z hz => ?_, h⟩
      rcases List.mem_cons.mp hz with q | q
      · omega
      · have := h1.1 z q
        omega
    · refine List.pairwise_cons.mpr ⟨fun z hz => ?_, ih h1.2⟩
      rcases ins_mem _ hz with q | q
      · omega
      · exact h1.1 z q
theorem sl_srt {F : Nat → Prop} {dy : Nat → Nat} : ∀ m : Nat, (sl F dy m).Pairwise (· ≤ ·) := by
  intro m
  induction m with
  | zero => exact List.Pairwise.nil
  | succ m ih =>
    by_cases q : F m
    · rw [sl_y q]; exact ins_srt _ ih
    · rw [sl_n q]; exact ih
theorem srt_get {l : List Nat} (h : l.Pairwise (· ≤ ·)) {i j : Nat} (hij : i ≤ j) (hj : j < l.length) : l.getD i 0 ≤ l.getD j 0 := by
  by_cases e : i = j
  · rw [e]; exact Nat.le_refl _
  · rw [List.getD_eq_getElem?_getD, List.getD_eq_getElem?_getD, List.getElem?_eq_getElem hj, List.getElem?_eq_getElem (show i < l.length by omega)]
    exact List.pairwise_iff_getElem.mp h i j (by omega) hj (by omega)
theorem ins_get {x : Nat} : ∀ (l : List Nat) (p : Nat), p ≤ l.length → (∀ j, j < p → l.getD j 0 ≤ x) → (∀ j, p ≤ j → j < l.length → x < l.getD j 0) → ∀ j, j < l.length + 1 → (ins x l).getD j 0 = if j < p then l.getD j 0 else if j = p then x else l.getD (j - 1) 0 := by
  intro l
  induction l with
  | nil =>
    intro p hp h1 h2 j hj
    obtain rfl : p = 0 := by have : ([] : List Nat).length = 0 := rfl; omega
    obtain rfl : j = 0 := by have : ([] : List Nat).length = 0 := rfl; omega
    rfl
  | cons y l ih =>
    intro p hp h1 h2 j hj
    rw [List.length_cons] at hp hj h2
    cases p with
    | zero =>
      have hy : x < y := h2 0 (by omega) (by omega)
      rw [ins, if_pos hy, if_neg (by omega)]
      cases j with
      | zero => rfl
      | succ j => rw [if_neg (by omega)]; rfl
    | succ p =>
      have hy : y ≤ x := h1 0 (by omega)
      rw [ins, if_neg (by omega)]
      cases j with
      | zero => rw [if_pos (by omega)]; rfl
      | succ j =>
        show (ins x l).getD j 0 = _
        rw [ih p (by omega) (fun i hi => h1 (i + 1) (by omega)) (fun i hi1 hi2 => h2 (i + 1) (by omega) (by omega)) j (by omega)]
        by_cases q1 : j < p
        · rw [if_pos q1, if_pos (by omega)]; rfl
        · rw [if_neg q1, if_neg (show ¬ j + 1 < p + 1 by omega)]
          by_cases q2 : j = p
          · rw [if_pos q2, if_pos (show j + 1 = p + 1 by omega)]
          · rw [if_neg q2, if_neg (show ¬ j + 1 = p + 1 by omega)]
            obtain ⟨i, rfl⟩ : ∃ i, j = i + 1 := ⟨j - 1, by omega⟩
            rfl
theorem p_X2_clear (d : Nat) {G : ma_G} {a : Nat} {D : Nat → Int32} {sz k : Nat} {ld : Int32} (hc : co G a D sz k ld) : Cq (d + 1) 78 [.ref a] G (coQ2 G a (fun _ sz k _ => sz = 0 ∧ k = 0)) := by
  refine cq_of rfl ?_
  refine rq_st 1 rfl rfl ?_
  refine rq_ic 2 (nI 0) rfl (by decide) rfl ?_
  refine rq_puti 5 rfl hc.1 (Nat.le_of_ble_eq_true rfl) rfl rfl ?_
  have hc1 := hc.po (sz' := 0) (k' := k) (ld' := ld) (fs := [.ref (a + 1), .int (nI (0)), .int (nI (k)), .int (ld)]) rfl
  refine rq_st 6 rfl rfl ?_
  refine rq_ic 7 (nI 0) rfl (by decide) rfl ?_
  refine rq_puti 10 rfl hc1.1 (Nat.le_of_ble_eq_true rfl) rfl rfl ?_
  have hc2 := hc1.po (sz' := 0) (k' := 0) (ld' := ld) (fs := [.ref (a + 1), .int (nI (0)), .int (nI (0)), .int (ld)]) rfl
  refine rq_st 11 rfl rfl ?_
  refine rq_ic 12 (-1) rfl (by decide) rfl ?_
  refine rq_puti 15 rfl hc2.1 (Nat.le_of_ble_eq_true rfl) rfl rfl ?_
  have hc3 := hc2.po (sz' := 0) (k' := 0) (ld' := -1) (fs := [.ref (a + 1), .int (nI (0)), .int (nI (0)), .int (-1)]) rfl
  exact rq_vret rfl rfl ⟨rfl, ((sm.rf.set cIn2_0).set cIn2_0).set cIn2_0, D, 0, 0, -1, hc3, rfl, rfl⟩
theorem p_X2_counted (d : Nat) {G : ma_G} {a : Nat} {D : Nat → Int32} {sz k : Nat} {ld : Int32} (hc : co G a D sz k ld) : Ca (d + 1) 87 [.ref a] G (.inl (some (.int (nI k))), G, 0, 0) := by
  refine ca_of rfl ?_
  refine ru_st 1 rfl rfl ?_
  refine ru_getf 4 rfl hc.1 rfl rfl ?_
  exact ru_ire rfl rfl rfl rfl
theorem p_X2_add (d : Nat) {G : ma_G} {a : Nat} {D : Nat → Int32} {k : Nat} {ld : Int32} {l : List Nat} (hc : co G a D l.length k ld) (hD : ∀ j, j < l.length → D (0 + j) = nI (l.getD j 0)) (hl : l.length < 96) (hl2 : ∀ y, y ∈ l → y ≤ 40000) (hsrt : l.Pairwise (· ≤ ·)) (x : Nat) (hx : x ≤ 40000) : Cq (d + 1) 83 [.ref a, .int (nI x)] G (coQ2 G a (fun D2 sz2 k2 _ => lstF id D2 0 (ins x l) ∧ sz2 = l.length + 1 ∧ k2 = k)) := by
  refine cq_of rfl ?_
  have J51 : ∀ (p : Nat) (D2 : Nat → Int32) (G2 : ma_G), p ≤ l.length → ((∀ j, j < p → D2 j = nI (l.getD j 0)) ∧ (∀ j, p < j → j ≤ l.length → D2 j = nI (l.getD (j - 1) 0)) ∧ (∀ j, p ≤ j → j < l.length → x < l.getD j 0)) → (∀ j, j < p → l.getD j 0 ≤ x) → co G2 a D2 l.length k ld → sm (cIn2 a) G G2 → Rq d M_X2_add 51 [some (.ref a), some (.int (nI x)), some (.int (nI p))] [] G2 (Qr (coQ2 G a (fun D2 sz2 k2 _ => lstF id D2 0 (ins x l) ∧ sz2 = l.length + 1 ∧ k2 = k))) := by
    intro p D2 G2 hp hinv hlo hc2 hs2
    have hlst : lstF id (upd D2 p (nI x)) 0 (ins x l) := by
      intro j hj
      rw [ins_len] at hj
      rw [Nat.zero_add, id, ins_get l p hp hlo hinv.2.2 j hj]
      by_cases q1 : j < p
      · rw [if_pos q1, pk_un (by omega), hinv.1 j q1]
      · rw [if_neg q1]
        by_cases q2 : j = p
        · rw [if_pos q2, q2, pk_us]
        · rw [if_neg q2, pk_un q2, hinv.2.1 j (by omega) (by omega)]
    refine rq_st 52 rfl rfl ?_
    refine rq_getf 55 rfl hc2.1 rfl rfl ?_
    refine rq_st 56 rfl rfl ?_
    refine rq_st 57 rfl rfl ?_
    refine rq_iasN 58 rfl hc2.2 (by omega) (by decide) rfl ?_
    have hc3 := hc2.pd (g := upd D2 p (nI x))
    refine rq_st 59 rfl rfl ?_
    refine rq_st 60 rfl rfl ?_
    refine rq_getf 63 rfl hc3.1 rfl rfl ?_
    refine rq_ic 64 (nI 1) rfl (by decide) rfl ?_
    refine rq_addN 65 rfl rfl ?_
    refine rq_puti 68 rfl hc3.1 (Nat.le_of_ble_eq_true rfl) rfl rfl ?_
    have hc4 := hc3.po (sz' := l.length + 1) (k' := k) (ld' := ld) (fs := [.ref (a + 1), .int (nI (l.length + 1)), .int (nI (k)), .int (ld)]) rfl
    exact rq_vret rfl rfl ⟨rfl, (hs2.set cIn2_1).set cIn2_0, _, _, _, _, hc4, hlst, rfl, rfl⟩
  have loop : ∀ (z p : Nat) (D2 : Nat → Int32) (G2 : ma_G), p = z → p ≤ l.length → ((∀ j, j < p → D2 j = nI (l.getD j 0)) ∧ (∀ j, p < j → j ≤ l.length → D2 j = nI (l.getD (j - 1) 0)) ∧ (∀ j, p ≤ j → j < l.length → x < l.getD j 0)) → co G2 a D2 l.length k ld → sm (cIn2 a) G G2 → Rq d M_X2_add 15 [some (.ref a), some (.int (nI x)), some (.int (nI p))] [] G2 (Qr (coQ2 G a (fun D2 sz2 k2 _ => lstF id D2 0 (ins x l) ∧ sz2 = l.length + 1 ∧ k2 = k))) := by
    intro z
    induction z with
    | zero =>
      intro p D2 G2 hz hp hinv hc2 hs2
      refine rq_st 16 rfl rfl ?_
      refine rq_ift rfl ((ma_ifN (by omega)).mpr (by show p ≤ 0; omega)) ?_
      exact J51 p D2 G2 hp hinv (fun j hj => by omega) hc2 hs2
    | succ z ih =>
      intro p1 D2 G2 hz hp hinv hc2 hs2
      obtain ⟨p, rfl⟩ : ∃ p, p1 = p + 1 := ⟨z, hz⟩
      refine rq_st 16 rfl rfl ?_
      refine rq_iff 19 rfl rfl (by rw [← Bool.not_eq_true, ma_ifN (by omega)]; show ¬ p + 1 ≤ 0; omega) ?_
      refine rq_st 20 rfl rfl ?_
      refine rq_getf 23 rfl hc2.1 rfl rfl ?_
      refine rq_st 24 rfl rfl ?_
      refine rq_ic 25 (nI 1) rfl (by decide) rfl ?_
      refine rq_subN 26 rfl (by omega) rfl ?_
      refine rq_ialN 27 rfl hc2.2 (by omega) (by decide) rfl ?_
      rw [show p + 1 - 1 = p by omega, hinv.1 p (by omega)]
      refine rq_st 28 rfl rfl ?_
      have hlb := hl2 _ (getD_mem (l := l) (k := p) (by omega))
      refine rq_cmpN 31 rfl rfl (by omega) (by omega) (fun h28 => ?_) (fun h28 => ?_)
      · dsimp only [cN] at h28
        exact J51 (p + 1) D2 G2 hp hinv (fun j hj => by have := srt_get hsrt (show j ≤ p by omega) (by omega); omega) hc2 hs2
      · dsimp only [cN] at h28
        refine rq_st 32 rfl rfl ?_
        refine rq_getf 35 rfl hc2.1 rfl rfl ?_
        refine rq_st 36 rfl rfl ?_
        refine rq_st 37 rfl rfl ?_
        refine rq_getf 40 rfl hc2.1 rfl rfl ?_
        refine rq_st 41 rfl rfl ?_
        refine rq_ic 42 (nI 1) rfl (by decide) rfl ?_
        refine rq_subN 43 rfl (by omega) rfl ?_
        refine rq_ialN 44 rfl hc2.2 (by omega) (by decide) rfl ?_
        rw [show p + 1 - 1 = p by omega, hinv.1 p (by omega)]
        refine rq_iasN 45 rfl hc2.2 (by omega) (by decide) rfl ?_
        have hc3 := hc2.pd (g := upd D2 (p + 1) (nI (l.getD p 0)))
        refine rq_incN 48 _ rfl rfl (pk_m1 p) rfl rfl ?_
        refine rq_st 15 rfl rfl ?_
        exact ih p _ _ (by omega) (by omega) ⟨fun j hj => by rw [pk_un (by omega)]; exact hinv.1 j (by omega), fun j h1 h2 => by
            by_cases e : j = p + 1
            · rw [e, pk_us]; rfl
            · rw [pk_un (by omega)]; exact hinv.2.1 j (by omega) h2, fun j h1 h2 => by
            by_cases e : j = p
            · rw [e]; omega
            · exact hinv.2.2 j (by omega) h2⟩ hc3 (hs2.set cIn2_1)
  refine rq_st 1 rfl rfl ?_
  refine rq_getf 4 rfl hc.1 rfl rfl ?_
  refine rq_bp 6 (nI 96) rfl (by decide) rfl ?_
  refine rq_cmpt rfl ((ma_cmpN (by omega) (by omega)).mpr (by show l.length < 96; omega)) ?_
  refine rq_st 11 rfl rfl ?_
  refine rq_getf 14 rfl hc.1 rfl rfl ?_
  refine rq_st 15 rfl rfl ?_
  exact loop l.length l.length D G rfl (by omega) ⟨fun j hj => by rw [← hD j hj, Nat.zero_add], fun j h1 h2 => absurd h1 (by omega), fun j h1 h2 => absurd h1 (by omega)⟩ hc sm.rf
theorem jfN_full {gp : Nat → Int32} {z : Nat} : ∀ (l : List Nat) (k : Nat) (lt : Int32), 0 < k → z ≤ k → jfN gp z l k lt = (k, lt) := by
  intro l
  induction l with
  | nil => intro k lt _ _; rfl
  | cons x l ih => intro k lt h1 h2; rw [jfN, if_neg (by omega)]; exact ih k lt h1 h2
theorem drop_s {l : List Nat} {i : Nat} (h : i < l.length) : l.drop i = l.getD i 0 :: l.drop (i + 1) := by
  rw [List.getD_eq_getElem?_getD, List.getElem?_eq_getElem h]
  exact List.drop_eq_getElem_cons h
theorem p_X2_count (d : Nat) {G : ma_G} {a : Nat} {D : Nat → Int32} {ld : Int32} {l : List Nat} (hc : co G a D l.length 0 ld) (hD : ∀ j, j < l.length → D (0 + j) = nI (l.getD j 0)) (hl : l.length ≤ 96) {b z : Nat} {g : Nat → Int32} (hsc : sc G b z g) (hb0 : ¬ cIn2 a b) (hz1 : 1 ≤ z) (hz4 : z ≤ 4) : Cq (d + 2) 84 [.ref a, .ref b] G (coQ2 G a (fun _ _ k2 ld2 => ∃ lt, jfN g z l 0 (nI 0) = (k2, lt) ∧ k2 ≤ z ∧ (0 < k2 → ld2 = lt))) := by
  refine cq_of rfl ?_
  have loop : ∀ (m i k : Nat) (lt ld2 : Int32) (G2 : ma_G), i + m = l.length → k ≤ z → (0 < k → ld2 = lt) → jfN g z l 0 (nI 0) = jfN g z (l.drop i) k lt → co G2 a D l.length k ld2 → sm (cIn2 a) G G2 → Rq (d + 1) M_X2_count 2 [some (.ref a), some (.ref b), some (.int (nI i))] [] G2 (Qr (coQ2 G a (fun _ _ k2 ld2 => ∃ lt, jfN g z l 0 (nI 0) = (k2, lt) ∧ k2 ≤ z ∧ (0 < k2 → ld2 = lt)))) := by
    intro m
    induction m with
    | zero =>
      intro i k lt ld2 G2 hi hkz hlt hj hc2 hs2
      refine rq_st 3 rfl rfl ?_
      refine rq_st 4 rfl rfl ?_
      refine rq_getf 7 rfl hc2.1 rfl rfl ?_
      refine rq_cmpt rfl ((ma_cmpN (by omega) (by omega)).mpr (by show l.length ≤ i; omega)) ?_
      exact rq_vret rfl rfl ⟨rfl, hs2, _, _, _, _, hc2, lt, by rw [hj, show i = l.length by omega, List.drop_length]; rfl, hkz, hlt⟩
    | succ m ih =>
      intro i k lt ld2 G2 hi hkz hlt hj hc2 hs2
      refine rq_st 3 rfl rfl ?_
      refine rq_st 4 rfl rfl ?_
      refine rq_getf 7 rfl hc2.1 rfl rfl ?_
      refine rq_cmpf 10 rfl rfl (by rw [← Bool.not_eq_true, ma_cmpN (by omega) (by omega)]; show ¬ l.length ≤ i; omega) ?_
      refine rq_st 11 rfl rfl ?_
      refine rq_getf 14 rfl hc2.1 rfl rfl ?_
      refine rq_st 15 rfl rfl ?_
      refine rq_call [_] _ 18 rfl rfl rfl rfl rfl (Nat.le_of_ble_eq_true rfl) (cats rfl) (rcv_s rfl (hsc.sm hs2 hb0)) (p_X4_doses d (hsc.sm hs2 hb0)) rfl ?_
      refine rq_cmpN 21 rfl rfl (by omega) (by omega) (fun h18 => ?_) (fun h18 => ?_)
      · dsimp only [cN] at h18
        skip
        exact rq_vret rfl rfl ⟨rfl, hs2, _, _, _, _, hc2, lt, by rw [hj]; exact jfN_full _ _ _ (by omega) (by omega), hkz, hlt⟩
      · dsimp only [cN] at h18
        refine rq_st 22 rfl rfl ?_
        refine rq_getf 25 rfl hc2.1 rfl rfl ?_
        refine rq_ifN 28 rfl rfl (by omega) (fun h25 => ?_) (fun h25 => ?_)
        · dsimp only [cN] at h25
          have hz : k = 0 ∨ (k < z ∧ lt + g k ≤ nI (l.getD i 0)) := Or.inl h25
          refine rq_st 51 rfl rfl ?_
          refine rq_st 52 rfl rfl ?_
          refine rq_getf 55 rfl hc2.1 rfl rfl ?_
          refine rq_ic 56 (nI 1) rfl (by decide) rfl ?_
          refine rq_addN 57 rfl rfl ?_
          refine rq_puti 60 rfl hc2.1 (Nat.le_of_ble_eq_true rfl) rfl rfl ?_
          have hc3 := hc2.po (sz' := l.length) (k' := k + 1) (ld' := ld2) (fs := [.ref (a + 1), .int (nI l.length), .int (nI (k + 1)), .int ld2]) rfl
          refine rq_st 61 rfl rfl ?_
          refine rq_st 62 rfl rfl ?_
          refine rq_getf 65 rfl hc3.1 rfl rfl ?_
          refine rq_st 66 rfl rfl ?_
          refine rq_ialN 67 rfl hc3.2 (by omega) (by decide) rfl ?_
          rw [show D i = nI (l.getD i 0) by rw [← hD i (by omega), Nat.zero_add]]
          refine rq_puti 70 rfl hc3.1 (Nat.le_of_ble_eq_true rfl) rfl rfl ?_
          have hc4 := hc3.po (sz' := l.length) (k' := k + 1) (ld' := nI (l.getD i 0)) (fs := [.ref (a + 1), .int (nI l.length), .int (nI (k + 1)), .int (nI (l.getD i 0))]) rfl
          refine rq_incN 73 _ rfl rfl (nI_1 _) rfl rfl ?_
          refine rq_st 2 rfl rfl ?_
          first
            | exact ih (i + 1) (k + 1) (nI (l.getD i 0)) _ _ (by omega) (by omega) (fun _ => rfl) (by rw [hj, drop_s (by omega), jfN, if_pos hz]) hc4 ((hs2.set cIn2_0).set cIn2_0)
            | exact ih (i + 1) k ld2 _ _ (by omega) hkz hlt (by rw [hj, drop_s (by omega), jfN, if_neg hz]) hc2 hs2
        · dsimp only [cN] at h25
          have hltk := hlt (by omega)
          subst hltk
          refine rq_st 29 rfl rfl ?_
          refine rq_getf 32 rfl hc2.1 rfl rfl ?_
          refine rq_st 33 rfl rfl ?_
          refine rq_ialN 34 rfl hc2.2 (by omega) (by decide) rfl ?_
          rw [show D i = nI (l.getD i 0) by rw [← hD i (by omega), Nat.zero_add]]
          refine rq_st 35 rfl rfl ?_
          refine rq_getf 38 rfl hc2.1 rfl rfl ?_
          refine rq_st 39 rfl rfl ?_
          refine rq_st 40 rfl rfl ?_
          refine rq_getf 43 rfl hc2.1 rfl rfl ?_
          refine rq_call [_, _] _ 46 rfl rfl rfl rfl rfl (Nat.le_of_ble_eq_true rfl) (cats rfl) (rcv_s rfl (hsc.sm hs2 hb0)) (p_X4_gapBehind d (hsc.sm hs2 hb0) k (by omega) (by omega)) rfl ?_
          refine rq_st 47 rfl rfl ?_
          refine rq_cmpI 50 rfl rfl (fun h47 => ?_) (fun h47 => ?_)
          · dsimp only [cI] at h47
            have hz : ¬ (k = 0 ∨ (k < z ∧ ld2 + g k ≤ nI (l.getD i 0))) := fun q => q.elim h25 (fun q => absurd h47 (Int32.not_lt.mpr q.2))
            refine rq_incN 73 _ rfl rfl (nI_1 _) rfl rfl ?_
            refine rq_st 2 rfl rfl ?_
            first
              | exact ih (i + 1) (k + 1) (nI (l.getD i 0)) _ _ (by omega) (by omega) (fun _ => rfl) (by rw [hj, drop_s (by omega), jfN, if_pos hz]) hc4 ((hs2.set cIn2_0).set cIn2_0)
              | exact ih (i + 1) k ld2 _ _ (by omega) hkz hlt (by rw [hj, drop_s (by omega), jfN, if_neg hz]) hc2 hs2
          · dsimp only [cI] at h47
            have hz : k = 0 ∨ (k < z ∧ ld2 + g k ≤ nI (l.getD i 0)) := Or.inr ⟨by omega, Int32.not_lt.mp h47⟩
            refine rq_st 51 rfl rfl ?_
            refine rq_st 52 rfl rfl ?_
            refine rq_getf 55 rfl hc2.1 rfl rfl ?_
            refine rq_ic 56 (nI 1) rfl (by decide) rfl ?_
            refine rq_addN 57 rfl rfl ?_
            refine rq_puti 60 rfl hc2.1 (Nat.le_of_ble_eq_true rfl) rfl rfl ?_
            have hc3 := hc2.po (sz' := l.length) (k' := k + 1) (ld' := ld2) (fs := [.ref (a + 1), .int (nI l.length), .int (nI (k + 1)), .int ld2]) rfl
            refine rq_st 61 rfl rfl ?_
            refine rq_st 62 rfl rfl ?_
            refine rq_getf 65 rfl hc3.1 rfl rfl ?_
            refine rq_st 66 rfl rfl ?_
            refine rq_ialN 67 rfl hc3.2 (by omega) (by decide) rfl ?_
            rw [show D i = nI (l.getD i 0) by rw [← hD i (by omega), Nat.zero_add]]
            refine rq_puti 70 rfl hc3.1 (Nat.le_of_ble_eq_true rfl) rfl rfl ?_
            have hc4 := hc3.po (sz' := l.length) (k' := k + 1) (ld' := nI (l.getD i 0)) (fs := [.ref (a + 1), .int (nI l.length), .int (nI (k + 1)), .int (nI (l.getD i 0))]) rfl
            refine rq_incN 73 _ rfl rfl (nI_1 _) rfl rfl ?_
            refine rq_st 2 rfl rfl ?_
            first
              | exact ih (i + 1) (k + 1) (nI (l.getD i 0)) _ _ (by omega) (by omega) (fun _ => rfl) (by rw [hj, drop_s (by omega), jfN, if_pos hz]) hc4 ((hs2.set cIn2_0).set cIn2_0)
              | exact ih (i + 1) k ld2 _ _ (by omega) hkz hlt (by rw [hj, drop_s (by omega), jfN, if_neg hz]) hc2 hs2
  refine rq_ic 1 (nI 0) rfl (by decide) rfl ?_
  refine rq_st 2 rfl rfl ?_
  exact loop l.length 0 0 (nI 0) ld G (by omega) (by omega) (fun h => absurd h (by omega)) rfl hc sm.rf
theorem p_X2_protectedFrom (d : Nat) {G : ma_G} {a : Nat} {D : Nat → Int32} {sz k : Nat} {ld : Int32} (hc : co G a D sz k ld) {b z : Nat} {g : Nat → Int32} (hsc : sc G b z g) (hk : k ≤ z) (hz1 : 1 ≤ z) (hz4 : z ≤ 4) : Ca (d + 2) 90 [.ref a, .ref b] G (.inl (some (.int (if k = z then ld else -1))), G, 0, 0) := by
  refine ca_of rfl ?_
  refine ru_st 1 rfl rfl ?_
  refine ru_getf 4 rfl hc.1 rfl rfl ?_
  refine ru_st 5 rfl rfl ?_
  refine ru_call [_] _ 8 rfl rfl rfl rfl rfl (Nat.le_of_ble_eq_true rfl) (cats rfl) (rcv_s rfl hsc) (p_X4_doses d hsc) rfl ?_
  refine ru_cmpN 11 rfl rfl (by omega) (by omega) (fun h8 => ?_) (fun h8 => ?_)
  · dsimp only [cN] at h8
    refine ru_ic 19 (-1) rfl (by decide) rfl ?_
    exact ru_ire rfl rfl (by first | rw [if_pos (by omega)] | rw [if_neg (by omega)]) rfl
  · dsimp only [cN] at h8
    refine ru_st 12 rfl rfl ?_
    refine ru_getf 15 rfl hc.1 rfl rfl ?_
    refine ru_st 19 rfl rfl ?_
    exact ru_ire rfl rfl (by first | rw [if_pos (by omega)] | rw [if_neg (by omega)]) rfl
theorem p_X2_nextDay (d : Nat) {G : ma_G} {a : Nat} {D : Nat → Int32} {sz k : Nat} {ld : Int32} (hc : co G a D sz k ld) {b z : Nat} {g : Nat → Int32} (hsc : sc G b z g) (hk : k ≤ z) (hz1 : 1 ≤ z) (hz4 : z ≤ 4) : Ca (d + 2) 93 [.ref a, .ref b] G (.inl (some (.int (if k = 0 then nI 0 else if k = z then -1 else ld + g k))), G, 0, 0) := by
  refine ca_of rfl ?_
  refine ru_st 1 rfl rfl ?_
  refine ru_getf 4 rfl hc.1 rfl rfl ?_
  refine ru_st 5 rfl rfl ?_
  refine ru_call [_] _ 8 rfl rfl rfl rfl rfl (Nat.le_of_ble_eq_true rfl) (cats rfl) (rcv_s rfl hsc) (p_X4_doses d hsc) rfl ?_
  refine ru_cmpN 11 rfl rfl (by omega) (by omega) (fun h8 => ?_) (fun h8 => ?_)
  · dsimp only [cN] at h8
    refine ru_st 14 rfl rfl ?_
    refine ru_getf 17 rfl hc.1 rfl rfl ?_
    refine ru_ifN 20 rfl rfl (by omega) (fun h17 => ?_) (fun h17 => ?_)
    · dsimp only [cN] at h17
      refine ru_st 25 rfl rfl ?_
      refine ru_getf 28 rfl hc.1 rfl rfl ?_
      refine ru_st 29 rfl rfl ?_
      refine ru_st 30 rfl rfl ?_
      refine ru_getf 33 rfl hc.1 rfl rfl ?_
      refine ru_call [_, _] _ 36 rfl rfl rfl rfl rfl (Nat.le_of_ble_eq_true rfl) (cats rfl) (rcv_s rfl hsc) (p_X4_gapBehind d hsc k (by omega) (by omega)) rfl ?_
      refine ru_st 37 rfl rfl ?_
      exact ru_ire rfl rfl (by first | rw [if_pos (by omega)] | rw [if_neg (by omega), if_neg (by omega)]) rfl
    · dsimp only [cN] at h17
      refine ru_ic 21 (nI 0) rfl (by decide) rfl ?_
      refine ru_st 37 rfl rfl ?_
      exact ru_ire rfl rfl (by first | rw [if_pos (by omega)] | rw [if_neg (by omega), if_neg (by omega)]) rfl
  · dsimp only [cN] at h8
    refine ru_ic 12 (-1) rfl (by decide) rfl ?_
    exact ru_ire rfl rfl (by rw [if_neg (by omega), if_pos (by omega)]) rfl
