/-! the class: a clinic, a schedule -/
def cl (G : ma_G) (a c : Nat) (Kn Hd : Nat → Int32) : Prop := ma_obj G a 1 = some [.int (nI c), .ref (a + 1), .ref (a + 2)] ∧ ma_ints G (a + 1) = some (4, Kn) ∧ ma_ints G (a + 2) = some (16, Hd)
def clK (c : Nat) (kn : Nat → Nat → Nat) (Kn : Nat → Int32) : Prop := ∀ d, d < 4 → Kn d = nI (kn c d) ∧ kn c d ≤ 24
def clH (c : Nat) (hr : Nat → Nat → Nat → Nat) (Hd : Nat → Int32) : Prop := ∀ b d, b < 4 → d < 4 → Hd (4 * b + d) = nI (hr c b d) ∧ hr c b d ≤ 24
theorem cl.sm {G G' : ma_G} {a c : Nat} {K N : Nat → Int32} {S : Nat → Prop} (h : cl G a c K N) (hs : sm S G G') (h0 : ¬ S a) (h1 : ¬ S (a + 1)) (h2 : ¬ S (a + 2)) : cl G' a c K N := by
  refine ⟨?_, ?_, ?_⟩
  · rw [hs.obj h0]; exact h.1
  · rw [hs.ints h1]; exact h.2.1
  · rw [hs.ints h2]; exact h.2.2
theorem cl.pk {G : ma_G} {a c : Nat} {K N : Nat → Int32} (h : cl G a c K N) {K' : Nat → Int32} : cl (G.set (a + 1) (.inl (0, 4, .inl K'))) a c K' N := by
  refine ⟨?_, ?_, ?_⟩
  · rw [obj_ne (by omega)]; exact h.1
  · exact ints_eq (ints_lt h.2.1)
  · rw [ints_ne (by omega)]; exact h.2.2
theorem cl.ph {G : ma_G} {a c : Nat} {K N : Nat → Int32} (h : cl G a c K N) {N' : Nat → Int32} : cl (G.set (a + 2) (.inl (0, 16, .inl N'))) a c K N' := by
  refine ⟨?_, ?_, ?_⟩
  · rw [obj_ne (by omega)]; exact h.1
  · rw [ints_ne (by omega)]; exact h.2.1
  · exact ints_eq (ints_lt h.2.2)
theorem p_X1_knows (d : Nat) {G : ma_G} {a c : Nat} {Kn Hd : Nat → Int32} (hl : cl G a c Kn Hd) {kn : Nat → Nat → Nat} (hK : clK c kn Kn) (e : Nat) (he : e < 4) : Ca (d + 2) 14 [.ref a, .int (nI e)] G (.inl (some (.int (nI (kn c e)))), G, 0, 0) := by
  refine ca_of rfl ?_
  refine ru_st 1 rfl rfl ?_
  refine ru_call [_] _ 4 rfl rfl rfl rfl rfl (Nat.le_of_ble_eq_true rfl) (cats rfl) (rcv_n rfl) (p_X6_isClinic d _ _) rfl ?_
  refine ru_iff 7 rfl rfl (by rw [← Bool.not_eq_true, (bI_if _).1]; exact fun q => q (⟨e, he, rfl⟩)) ?_
  refine ru_st 8 rfl rfl ?_
  refine ru_getf 11 rfl hl.1 rfl rfl ?_
  refine ru_st 12 rfl rfl ?_
  refine ru_ialN 13 rfl hl.2.1 (by omega) (by decide) rfl ?_
  rw [(hK e he).1]
  refine ru_st 17 rfl rfl ?_
  exact ru_ire rfl rfl rfl rfl
theorem p_X1_heardOf (d : Nat) {G : ma_G} {a c : Nat} {Kn Hd : Nat → Int32} (hl : cl G a c Kn Hd) {hr : Nat → Nat → Nat → Nat} (hH : clH c hr Hd) (b : Nat) (hb : b < 4) (e : Nat) (he : e < 4) : Ca (d + 2) 16 [.ref a, .int (nI b), .int (nI e)] G (.inl (some (.int (nI (hr c b e)))), G, 0, 0) := by
  refine ca_of rfl ?_
  refine ru_st 1 rfl rfl ?_
  refine ru_call [_] _ 4 rfl rfl rfl rfl rfl (Nat.le_of_ble_eq_true rfl) (cats rfl) (rcv_n rfl) (p_X6_isClinic d _ _) rfl ?_
  refine ru_iff 7 rfl rfl (by rw [← Bool.not_eq_true, (bI_if _).1]; exact fun q => q (⟨b, hb, rfl⟩)) ?_
  refine ru_st 8 rfl rfl ?_
  refine ru_call [_] _ 11 rfl rfl rfl rfl rfl (Nat.le_of_ble_eq_true rfl) (cats rfl) (rcv_n rfl) (p_X6_isClinic d _ _) rfl ?_
  refine ru_iff 14 rfl rfl (by rw [← Bool.not_eq_true, (bI_if _).1]; exact fun q => q (⟨e, he, rfl⟩)) ?_
  refine ru_st 15 rfl rfl ?_
  refine ru_getf 18 rfl hl.1 rfl rfl ?_
  refine ru_st 19 rfl rfl ?_
  refine ru_ic 20 (nI 4) rfl (by decide) rfl ?_
  refine ru_mulN 21 rfl rfl ?_
  refine ru_st 22 rfl rfl ?_
  refine ru_addN 23 rfl rfl ?_
  refine ru_ialN 24 rfl hl.2.2 (by omega) (by decide) rfl ?_
  rw [show b * 4 + e = 4 * b + e by omega, (hH b e hb he).1]
  refine ru_st 28 rfl rfl ?_
  exact ru_ire rfl rfl rfl rfl
def leQ (G : ma_G) (a c : Nat) (Kn Hd : Nat → Int32) (kn : Nat → Nat → Nat) (e : Nat) (r : Option Value) (G' : ma_G) : Prop := r = none ∧ sm (fun x => x = a + 1) G G' ∧ cl G' a c (upd Kn e (nI (kn c e + 1))) Hd
theorem p_X1_learn (d : Nat) {G : ma_G} {a c : Nat} {Kn Hd : Nat → Int32} (hl : cl G a c Kn Hd) {kn : Nat → Nat → Nat} (hK : clK c kn Kn) (e : Nat) (he : e < 4) : Cq (d + 2) 47 [.ref a, .int (nI e)] G (leQ G a c Kn Hd kn e) := by
  refine cq_of rfl ?_
  refine rq_st 1 rfl rfl ?_
  refine rq_call [_] _ 4 rfl rfl rfl rfl rfl (Nat.le_of_ble_eq_true rfl) (cats rfl) (rcv_n rfl) (p_X6_isClinic d _ _) rfl ?_
  refine rq_iff 7 rfl rfl (by rw [← Bool.not_eq_true, (bI_if _).1]; exact fun q => q (⟨e, he, rfl⟩)) ?_
  refine rq_st 8 rfl rfl ?_
  refine rq_getf 11 rfl hl.1 rfl rfl ?_
  refine rq_st 12 rfl rfl ?_
  refine rq_st 13 rfl rfl ?_
  refine rq_ialN 14 rfl hl.2.1 (by omega) (by decide) rfl ?_
  rw [(hK e he).1]
  refine rq_ic 15 (nI 1) rfl (by decide) rfl ?_
  refine rq_addN 16 rfl rfl ?_
  refine rq_iasN 17 rfl hl.2.1 (by omega) (by decide) rfl ?_
  exact rq_vret rfl rfl ⟨rfl, sm.rf.set rfl, hl.pk⟩
def heQ (G : ma_G) (a c : Nat) (Kn Hd : Nat → Int32) (hr : Nat → Nat → Nat → Nat) (b e x : Nat) (r : Option Value) (G' : ma_G) : Prop := r = none ∧ sm (fun x => x = a + 2) G G' ∧ (((b ≠ c ∧ hr c b e < x) ∧ cl G' a c Kn (upd Hd (4 * b + e) (nI x))) ∨ (¬ (b ≠ c ∧ hr c b e < x) ∧ cl G' a c Kn Hd))
theorem p_X1_hear (d : Nat) {G : ma_G} {a c : Nat} {Kn Hd : Nat → Int32} (hl : cl G a c Kn Hd) {hr : Nat → Nat → Nat → Nat} (hH : clH c hr Hd) (hc : c < 4) (b : Nat) (hb : b < 4) (e : Nat) (he : e < 4) (x : Nat) (hx : x ≤ 24) : Cq (d + 3) 69 [.ref a, .int (nI b), .int (nI e), .int (nI x)] G (heQ G a c Kn Hd hr b e x) := by
  refine cq_of rfl ?_
  refine rq_st 1 rfl rfl ?_
  refine rq_call [_] _ 4 rfl rfl rfl rfl rfl (Nat.le_of_ble_eq_true rfl) (cats rfl) (rcv_n rfl) (p_X6_isClinic (d + 1) _ _) rfl ?_
  refine rq_iff 7 rfl rfl (by rw [← Bool.not_eq_true, (bI_if _).1]; exact fun q => q (⟨b, hb, rfl⟩)) ?_
  refine rq_st 8 rfl rfl ?_
  refine rq_call [_] _ 11 rfl rfl rfl rfl rfl (Nat.le_of_ble_eq_true rfl) (cats rfl) (rcv_n rfl) (p_X6_isClinic (d + 1) _ _) rfl ?_
  refine rq_iff 14 rfl rfl (by rw [← Bool.not_eq_true, (bI_if _).1]; exact fun q => q (⟨e, he, rfl⟩)) ?_
  refine rq_st 15 rfl rfl ?_
  refine rq_st 16 rfl rfl ?_
  refine rq_getf 19 rfl hl.1 rfl rfl ?_
  refine rq_cmpN 22 rfl rfl (by omega) (by omega) (fun h19 => ?_) (fun h19 => ?_)
  · dsimp only [cN] at h19
    have hz : ¬ (b ≠ c ∧ hr c b e < x) := fun q => q.1 h19
    exact rq_vret rfl rfl (by first | exact ⟨rfl, sm.rf, Or.inr ⟨hz, hl⟩⟩ | exact ⟨rfl, sm.rf.set rfl, Or.inl ⟨hz, by rw [show 4 * b + e = b * 4 + e by omega]; exact hl.ph⟩⟩)
  · dsimp only [cN] at h19
    refine rq_st 23 rfl rfl ?_
    refine rq_st 24 rfl rfl ?_
    refine rq_st 25 rfl rfl ?_
    refine rq_st 26 rfl rfl ?_
    refine rq_call [_, _, _] _ 29 rfl rfl rfl rfl rfl (Nat.le_of_ble_eq_true rfl) (cats rfl) (rcv_s rfl hl.1) (p_X1_heardOf d hl hH b hb e he) rfl ?_
    have h24 := (hH b e hb he).2
    refine rq_cmpN 32 rfl rfl (by omega) (by omega) (fun h29 => ?_) (fun h29 => ?_)
    · dsimp only [cN] at h29
      have hz : ¬ (b ≠ c ∧ hr c b e < x) := fun q => absurd q.2 (by omega)
      exact rq_vret rfl rfl (by first | exact ⟨rfl, sm.rf, Or.inr ⟨hz, hl⟩⟩ | exact ⟨rfl, sm.rf.set rfl, Or.inl ⟨hz, by rw [show 4 * b + e = b * 4 + e by omega]; exact hl.ph⟩⟩)
    · dsimp only [cN] at h29
      have hz : (b ≠ c ∧ hr c b e < x) := ⟨h19, by omega⟩
      refine rq_st 33 rfl rfl ?_
      refine rq_getf 36 rfl hl.1 rfl rfl ?_
      refine rq_st 37 rfl rfl ?_
      refine rq_ic 38 (nI 4) rfl (by decide) rfl ?_
      refine rq_mulN 39 rfl rfl ?_
      refine rq_st 40 rfl rfl ?_
      refine rq_addN 41 rfl rfl ?_
      refine rq_st 42 rfl rfl ?_
      refine rq_iasN 43 rfl hl.2.2 (by omega) (by decide) rfl ?_
      exact rq_vret rfl rfl (by first | exact ⟨rfl, sm.rf, Or.inr ⟨hz, hl⟩⟩ | exact ⟨rfl, sm.rf.set rfl, Or.inl ⟨hz, by rw [show 4 * b + e = b * 4 + e by omega]; exact hl.ph⟩⟩)
theorem p_X1_leastHeard (d : Nat) {G : ma_G} {a c : Nat} {Kn Hd : Nat → Int32} (hl : cl G a c Kn Hd) {hr : Nat → Nat → Nat → Nat} (hH : clH c hr Hd) (hc : c < 4) (dd : Nat) (hd : dd < 4) : Ca (d + 3) 59 [.ref a, .int (nI dd)] G (.inl (some (.int (nI (lsN hr c dd 4)))), G, 0, 0) := by
  refine ca_of rfl ?_
  have loop : ∀ (z kk : Nat) (v : Int32), kk + z = 4 → v = nI (lsN hr c dd kk) → Ru (d + 2) M_X1_leastHeard 5 [some (.ref a), some (.int (nI dd)), some (.int v), some (.int (nI kk))] [] G (.inl (some (.int (nI (lsN hr c dd 4)))), G, 0, 0) := by
    intro z
    induction z with
    | zero =>
      intro kk v hk hv
      refine ru_st 6 rfl rfl ?_
      refine ru_ic 7 (nI 4) rfl (by decide) rfl ?_
      refine ru_cmpt rfl ((ma_cmpN (by omega) (by omega)).mpr (by show 4 ≤ kk; omega)) ?_
      refine ru_st 41 rfl rfl ?_
      exact ru_ire rfl rfl (by rw [hv, show kk = 4 by omega]) rfl
    | succ z ih =>
      intro kk v hk hv
      refine ru_st 6 rfl rfl ?_
      refine ru_ic 7 (nI 4) rfl (by decide) rfl ?_
      refine ru_cmpf 10 rfl rfl (by rw [← Bool.not_eq_true, ma_cmpN (by omega) (by omega)]; show ¬ 4 ≤ kk; omega) ?_
      subst hv
      have hle := lsN_le hr c dd kk
      refine ru_st 11 rfl rfl ?_
      refine ru_st 12 rfl rfl ?_
      refine ru_getf 15 rfl hl.1 rfl rfl ?_
      refine ru_cmpN 18 rfl rfl (by omega) (by omega) (fun h15 => ?_) (fun h15 => ?_)
      · dsimp only [cN] at h15
        have hz : nI (lsN hr c dd kk) = nI (lsN hr c dd (kk + 1)) := by rw [lsN, if_neg (fun q => q.1 h15)]
        refine ru_incN 37 _ rfl rfl (nI_1 _) rfl rfl ?_
        refine ru_st 5 rfl rfl ?_
        exact ih (kk + 1) _ (by omega) hz
      · dsimp only [cN] at h15
        refine ru_st 19 rfl rfl ?_
        refine ru_st 20 rfl rfl ?_
        refine ru_cmpN 23 rfl rfl (by omega) (by omega) (fun h20 => ?_) (fun h20 => ?_)
        · dsimp only [cN] at h20
          have hz : nI (lsN hr c dd kk) = nI (lsN hr c dd (kk + 1)) := by rw [lsN, if_neg (fun q => q.2.1 h20)]
          refine ru_incN 37 _ rfl rfl (nI_1 _) rfl rfl ?_
          refine ru_st 5 rfl rfl ?_
          exact ih (kk + 1) _ (by omega) hz
        · dsimp only [cN] at h20
          refine ru_st 24 rfl rfl ?_
          refine ru_st 25 rfl rfl ?_
          refine ru_st 26 rfl rfl ?_
          refine ru_st 27 rfl rfl ?_
          refine ru_call [_, _, _] _ 30 rfl rfl rfl rfl rfl (Nat.le_of_ble_eq_true rfl) (cats rfl) (rcv_s rfl hl.1) (p_X1_heardOf d hl hH kk (by omega) dd hd) rfl ?_
          refine ru_st 33 rfl rfl ?_
          have h24 := (hH kk dd (by omega) hd).2
          have hz : (if nI (hr c kk dd) < nI (lsN hr c dd kk) then nI (hr c kk dd) else nI (lsN hr c dd kk)) = nI (lsN hr c dd (kk + 1)) := by
            rw [lsN]
            by_cases q : hr c kk dd < lsN hr c dd kk
            · rw [if_pos (nI_lt q (by omega)), if_pos ⟨h15, h20, q⟩]
            · rw [if_neg (fun p => q ((nI_ltI (by omega) (by omega)).mp p)), if_neg (fun p => q p.2.2)]
          refine ru_st 34 rfl rfl ?_
          refine ru_incN 37 _ rfl rfl (nI_1 _) rfl rfl ?_
          refine ru_st 5 rfl rfl ?_
          exact ih (kk + 1) _ (by omega) hz
  refine ru_bp 2 (nI 24) rfl (by decide) rfl ?_
  refine ru_st 3 rfl rfl ?_
  refine ru_ic 4 (nI 0) rfl (by decide) rfl ?_
  refine ru_st 5 rfl rfl ?_
  exact loop 4 0 _ (by omega) rfl
def sc (G : ma_G) (a z : Nat) (g : Nat → Int32) : Prop := ma_obj G a 4 = some [.int (nI z), .int (g 1), .int (g 2), .int (g 3)]
theorem sc.sm {G G' : ma_G} {a z : Nat} {g : Nat → Int32} {S : Nat → Prop} (h : sc G a z g) (hs : sm S G G') (h0 : ¬ S a) : sc G' a z g := by
  unfold sc
  rw [hs.obj h0]
  exact h
theorem p_X4_doses (d : Nat) {G : ma_G} {a z : Nat} {g : Nat → Int32} (hc : sc G a z g) : Ca (d + 1) 85 [.ref a] G (.inl (some (.int (nI z))), G, 0, 0) := by
  refine ca_of rfl ?_
  refine ru_st 1 rfl rfl ?_
  refine ru_getf 4 rfl hc rfl rfl ?_
  exact ru_ire rfl rfl rfl rfl
theorem p_X4_gapBehind (d : Nat) {G : ma_G} {a z : Nat} {g : Nat → Int32} (hc : sc G a z g) (k : Nat) (h1 : 1 ≤ k) (h3 : k ≤ 3) : Ca (d + 1) 86 [.ref a, .int (nI k)] G (.inl (some (.int (g k))), G, 0, 0) := by
  refine ca_of rfl ?_
  rcases (show k = 1 ∨ k = 2 ∨ k = 3 by omega) with rfl | rfl | rfl
  · refine ru_st 1 rfl rfl ?_
    refine ru_st 28 rfl rfl ?_
    refine ru_st 29 rfl rfl ?_
    refine ru_getf 32 rfl hc rfl rfl ?_
    exact ru_ire rfl rfl rfl rfl
  · refine ru_st 1 rfl rfl ?_
    refine ru_st 33 rfl rfl ?_
    refine ru_st 34 rfl rfl ?_
    refine ru_getf 37 rfl hc rfl rfl ?_
    exact ru_ire rfl rfl rfl rfl
  · refine ru_st 1 rfl rfl ?_
    refine ru_st 38 rfl rfl ?_
    refine ru_st 39 rfl rfl ?_
    refine ru_getf 42 rfl hc rfl rfl ?_
    exact ru_ire rfl rfl rfl rfl
def seQ (G : ma_G) (a : Nat) (z2 g1 g2 g3 : Int32) (r : Option Value) (G' : ma_G) : Prop := r = none ∧ sm (fun x => x = a) G G' ∧ ma_obj G' a 4 = some [.int z2, .int g1, .int g2, .int g3]
theorem p_X4_set (d : Nat) {G : ma_G} {a z : Nat} {g : Nat → Int32} (hc : sc G a z g) (z2 g1 g2 g3 : Int32) : Cq (d + 1) 38 [.ref a, .int z2, .int g1, .int g2, .int g3] G (seQ G a z2 g1 g2 g3) := by
  refine cq_of rfl ?_
  refine rq_st 1 rfl rfl ?_
  refine rq_st 2 rfl rfl ?_
  refine rq_puti 5 rfl hc (Nat.le_of_ble_eq_true rfl) rfl rfl ?_
  have hc1 := obj_eq (ci := 4) (gs := [.int z2, .int (g 1), .int (g 2), .int (g 3)]) (obj_lt hc)
  refine rq_st 6 rfl rfl ?_
  refine rq_st 7 rfl rfl ?_
  refine rq_puti 10 rfl hc1 (Nat.le_of_ble_eq_true rfl) rfl rfl ?_
  have hc2 := obj_eq (ci := 4) (gs := [.int z2, .int g1, .int (g 2), .int (g 3)]) (obj_lt hc1)
  refine rq_st 11 rfl rfl ?_
  refine rq_st 12 rfl rfl ?_
  refine rq_puti 15 rfl hc2 (Nat.le_of_ble_eq_true rfl) rfl rfl ?_
  have hc3 := obj_eq (ci := 4) (gs := [.int z2, .int g1, .int g2, .int (g 3)]) (obj_lt hc2)
  refine rq_st 16 rfl rfl ?_
  refine rq_st 18 rfl rfl ?_
  refine rq_puti 21 rfl hc3 (Nat.le_of_ble_eq_true rfl) rfl rfl ?_
  have hc4 := obj_eq (ci := 4) (gs := [.int z2, .int g1, .int g2, .int g3]) (obj_lt hc3)
  exact rq_vret rfl rfl ⟨rfl, ((((sm.rf (S := fun x => x = a)).set rfl).set rfl).set rfl).set rfl, hc4⟩
