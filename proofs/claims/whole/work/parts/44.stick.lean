/-! the class: a stick -/
def sk (G : ma_G) (a : Nat) (Wk B E : Nat → Int32) (wr ec wp : Int32) : Prop := ma_obj G a 5 = some [.ref (a + 1), .ref (a + 2), .ref (a + 3), .int wr, .int ec, .int wp] ∧ ma_ints G (a + 1) = some (4, Wk) ∧ ma_ints G (a + 2) = some (96, B) ∧ ma_ints G (a + 3) = some (96, E)
section SK
variable {G G' : ma_G} {a : Nat} {Wk B E : Nat → Int32} {wr ec wp : Int32}
theorem sk.sm {S : Nat → Prop} (h : sk G a Wk B E wr ec wp) (hs : sm S G G') (h0 : ∀ k, k < 4 → ¬ S (a + k)) : sk G' a Wk B E wr ec wp := by
  refine ⟨?_, ?_, ?_, ?_⟩
  · rw [hs.obj (a := a) (h0 0 (by decide))]; exact h.1
  · rw [hs.ints (h0 1 (by decide))]; exact h.2.1
  · rw [hs.ints (h0 2 (by decide))]; exact h.2.2.1
  · rw [hs.ints (h0 3 (by decide))]; exact h.2.2.2
theorem sk.po (h : sk G a Wk B E wr ec wp) {wr' ec' wp' : Int32} {fs : List Value} (hf : fs = [.ref (a + 1), .ref (a + 2), .ref (a + 3), .int wr', .int ec', .int wp']) : sk (G.set a (.inr (5, fs))) a Wk B E wr' ec' wp' := by
  subst hf
  refine ⟨obj_eq (obj_lt h.1), ?_, ?_, ?_⟩
  · rw [ints_ne (by omega)]; exact h.2.1
  · rw [ints_ne (by omega)]; exact h.2.2.1
  · rw [ints_ne (by omega)]; exact h.2.2.2
theorem sk.pw (h : sk G a Wk B E wr ec wp) {g : Nat → Int32} : sk (G.set (a + 1) (.inl (0, 4, .inl g))) a g B E wr ec wp := by
  refine ⟨?_, ints_eq (ints_lt h.2.1), ?_, ?_⟩
  · rw [obj_ne (by omega)]; exact h.1
  · rw [ints_ne (by omega)]; exact h.2.2.1
  · rw [ints_ne (by omega)]; exact h.2.2.2
theorem sk.pb (h : sk G a Wk B E wr ec wp) {g : Nat → Int32} : sk (G.set (a + 2) (.inl (0, 96, .inl g))) a Wk g E wr ec wp := by
  refine ⟨?_, ?_, ints_eq (ints_lt h.2.2.1), ?_⟩
  · rw [obj_ne (by omega)]; exact h.1
  · rw [ints_ne (by omega)]; exact h.2.1
  · rw [ints_ne (by omega)]; exact h.2.2.2
theorem sk.pe (h : sk G a Wk B E wr ec wp) {g : Nat → Int32} : sk (G.set (a + 3) (.inl (0, 96, .inl g))) a Wk B g wr ec wp := by
  refine ⟨?_, ?_, ?_, ints_eq (ints_lt h.2.2.2)⟩
  · rw [obj_ne (by omega)]; exact h.1
  · rw [ints_ne (by omega)]; exact h.2.1
  · rw [ints_ne (by omega)]; exact h.2.2.1
end SK
def sIn (a : Nat) : Nat → Prop := fun x => a ≤ x ∧ x < a + 4
theorem sIn_k {a k : Nat} (h : k < 4) : sIn a (a + k) := ⟨by omega, by omega⟩
theorem sIn_0 {a : Nat} : sIn a a := ⟨by omega, by omega⟩
theorem p_X5_wholePages (d : Nat) {G : ma_G} {a : Nat} {Wk B E : Nat → Int32} {wr ec wp : Int32} (hs : sk G a Wk B E wr ec wp) : Ca (d + 1) 9 [.ref a] G (.inl (some (.int wp)), G, 0, 0) := by
  refine ca_of rfl ?_
  refine ru_st 1 rfl rfl ?_
  refine ru_getf 4 rfl hs.1 rfl rfl ?_
  exact ru_ire rfl rfl rfl rfl
theorem p_X5_entryCount (d : Nat) {G : ma_G} {a : Nat} {Wk B E : Nat → Int32} {wr ec wp : Int32} (hs : sk G a Wk B E wr ec wp) : Ca (d + 1) 11 [.ref a] G (.inl (some (.int ec)), G, 0, 0) := by
  refine ca_of rfl ?_
  refine ru_st 1 rfl rfl ?_
  refine ru_getf 4 rfl hs.1 rfl rfl ?_
  exact ru_ire rfl rfl rfl rfl
theorem p_X5_writer (d : Nat) {w : Nat} {G : ma_G} {a : Nat} {Wk B E : Nat → Int32} {wr ec : Int32} (hs : sk G a Wk B E wr ec (nI w)) (hw : w ≤ 25) : Ca (d + 1) 10 [.ref a] G (.inl (some (.int (if 0 < w then wr else -1))), G, 0, 0) := by
  refine ca_of rfl ?_
  refine ru_st 1 rfl rfl ?_
  refine ru_getf 4 rfl hs.1 rfl rfl ?_
  refine ru_ifN 7 rfl rfl (by omega) (fun h4 => ?_) (fun h4 => ?_)
  · dsimp only [cN] at h4
    refine ru_ic 15 (-1) rfl (by decide) rfl ?_
    exact ru_ire rfl rfl (by first | rw [if_pos (by omega)] | rw [if_neg (by omega)]) rfl
  · dsimp only [cN] at h4
    refine ru_st 8 rfl rfl ?_
    refine ru_getf 11 rfl hs.1 rfl rfl ?_
    refine ru_st 15 rfl rfl ?_
    exact ru_ire rfl rfl (by first | rw [if_pos (by omega)] | rw [if_neg (by omega)]) rfl
theorem p_X5_writerKnew (d : Nat) {G : ma_G} {a : Nat} {Wk B E : Nat → Int32} {wr ec wp : Int32} (hs : sk G a Wk B E wr ec wp) (e : Nat) (he : e < 4) : Ca (d + 2) 68 [.ref a, .int (nI e)] G (.inl (some (.int (Wk e))), G, 0, 0) := by
  refine ca_of rfl ?_
  refine ru_st 1 rfl rfl ?_
  refine ru_call [_] _ 4 rfl rfl rfl rfl rfl (Nat.le_of_ble_eq_true rfl) (cats rfl) (rcv_n rfl) (p_X6_isClinic d _ _) rfl ?_
  refine ru_iff 7 rfl rfl (by rw [← Bool.not_eq_true, (bI_if _).1]; exact fun q => q (⟨e, he, rfl⟩)) ?_
  refine ru_st 8 rfl rfl ?_
  refine ru_getf 11 rfl hs.1 rfl rfl ?_
  refine ru_st 12 rfl rfl ?_
  refine ru_ialN 13 rfl hs.2.1 (by omega) (by decide) rfl ?_
  refine ru_st 17 rfl rfl ?_
  exact ru_ire rfl rfl rfl rfl
theorem p_X5_has (d : Nat) {m : Nat} {G : ma_G} {a : Nat} {Wk B E : Nat → Int32} {wr wp : Int32} (hs : sk G a Wk B E wr (nI m) wp) (hm : m ≤ 96) (j : Nat) (hj : j < m) : Ca (d + 1) 71 [.ref a, .int (nI j)] G (.inl (some (.int 1)), G, 0, 0) := by
  refine ca_of rfl ?_
  refine ru_st 1 rfl rfl ?_
  refine ru_iff 4 rfl rfl (by rw [← Bool.not_eq_true, ma_ifN (by omega)]; show ¬ j < 0; omega) ?_
  refine ru_st 5 rfl rfl ?_
  refine ru_st 6 rfl rfl ?_
  refine ru_getf 9 rfl hs.1 rfl rfl ?_
  refine ru_cmpf 12 rfl rfl (by rw [← Bool.not_eq_true, ma_cmpN (by omega) (by omega)]; show ¬ m ≤ j; omega) ?_
  refine ru_ic 13 (nI 1) rfl (by decide) rfl ?_
  refine ru_st 17 rfl rfl ?_
  exact ru_ire rfl rfl rfl rfl
theorem p_X5_bookAt (d : Nat) {m : Nat} {G : ma_G} {a : Nat} {Wk B E : Nat → Int32} {wr wp : Int32} (hs : sk G a Wk B E wr (nI m) wp) (hm : m ≤ 96) (j : Nat) (hj : j < m) : Ca (d + 2) 70 [.ref a, .int (nI j)] G (.inl (some (.int (B j))), G, 0, 0) := by
  refine ca_of rfl ?_
  refine ru_st 1 rfl rfl ?_
  refine ru_st 2 rfl rfl ?_
  refine ru_call [_, _] _ 5 rfl rfl rfl rfl rfl (Nat.le_of_ble_eq_true rfl) (cats rfl) (rcv_s rfl hs.1) (p_X5_has d hs hm j hj) rfl ?_
  refine ru_iff 8 rfl rfl (by decide) ?_
  refine ru_st 9 rfl rfl ?_
  refine ru_getf 12 rfl hs.1 rfl rfl ?_
  refine ru_st 13 rfl rfl ?_
  refine ru_ialN 14 rfl hs.2.2.1 (by omega) (by decide) rfl ?_
  refine ru_st 18 rfl rfl ?_
  exact ru_ire rfl rfl rfl rfl
theorem p_X5_numberAt (d : Nat) {m : Nat} {G : ma_G} {a : Nat} {Wk B E : Nat → Int32} {wr wp : Int32} (hs : sk G a Wk B E wr (nI m) wp) (hm : m ≤ 96) (j : Nat) (hj : j < m) : Ca (d + 2) 72 [.ref a, .int (nI j)] G (.inl (some (.int (E j))), G, 0, 0) := by
  refine ca_of rfl ?_
  refine ru_st 1 rfl rfl ?_
  refine ru_st 2 rfl rfl ?_
  refine ru_call [_, _] _ 5 rfl rfl rfl rfl rfl (Nat.le_of_ble_eq_true rfl) (cats rfl) (rcv_s rfl hs.1) (p_X5_has d hs hm j hj) rfl ?_
  refine ru_iff 8 rfl rfl (by decide) ?_
  refine ru_st 9 rfl rfl ?_
  refine ru_getf 12 rfl hs.1 rfl rfl ?_
  refine ru_st 13 rfl rfl ?_
  refine ru_ialN 14 rfl hs.2.2.2 (by omega) (by decide) rfl ?_
  refine ru_st 18 rfl rfl ?_
  exact ru_ire rfl rfl rfl rfl
def skQ5 (G : ma_G) (a : Nat) (Wk B E : Nat → Int32) (wr ec wp : Int32) (r : Option Value) (G' : ma_G) : Prop := r = none ∧ sm (sIn a) G G' ∧ sk G' a Wk B E wr ec wp
theorem p_X5_begin (d : Nat) {G : ma_G} {a : Nat} {Wk B E : Nat → Int32} {wr ec wp : Int32} (hs : sk G a Wk B E wr ec wp) (x : Int32) : Cq (d + 1) 57 [.ref a, .int x] G (skQ5 G a Wk B E x (nI 0) wp) := by
  refine cq_of rfl ?_
  refine rq_st 1 rfl rfl ?_
  refine rq_st 2 rfl rfl ?_
  refine rq_puti 5 rfl hs.1 (Nat.le_of_ble_eq_true rfl) rfl rfl ?_
  have hs1 := hs.po (wr' := x) (ec' := ec) (wp' := wp) (fs := [.ref (a + 1), .ref (a + 2), .ref (a + 3), .int x, .int ec, .int wp]) rfl
  refine rq_st 6 rfl rfl ?_
  refine rq_ic 7 (nI 0) rfl (by decide) rfl ?_
  refine rq_puti 10 rfl hs1.1 (Nat.le_of_ble_eq_true rfl) rfl rfl ?_
  have hs2 := hs1.po (wr' := x) (ec' := nI 0) (wp' := wp) (fs := [.ref (a + 1), .ref (a + 2), .ref (a + 3), .int x, .int (nI 0), .int wp]) rfl
  exact rq_vret rfl rfl ⟨rfl, (sm.rf.set sIn_0).set sIn_0, hs2⟩
theorem p_X5_setWriterKnew (d : Nat) {G : ma_G} {a : Nat} {Wk B E : Nat → Int32} {wr ec wp : Int32} (hs : sk G a Wk B E wr ec wp) (e : Nat) (he : e < 4) (x : Int32) : Cq (d + 2) 58 [.ref a, .int (nI e), .int x] G (skQ5 G a (upd Wk e x) B E wr ec wp) := by
  refine cq_of rfl ?_
  refine rq_st 1 rfl rfl ?_
  refine rq_call [_] _ 4 rfl rfl rfl rfl rfl (Nat.le_of_ble_eq_true rfl) (cats rfl) (rcv_n rfl) (p_X6_isClinic d _ _) rfl ?_
  refine rq_iff 7 rfl rfl (by rw [← Bool.not_eq_true, (bI_if _).1]; exact fun q => q (⟨e, he, rfl⟩)) ?_
  refine rq_st 8 rfl rfl ?_
  refine rq_getf 11 rfl hs.1 rfl rfl ?_
  refine rq_st 12 rfl rfl ?_
  refine rq_st 13 rfl rfl ?_
  refine rq_iasN 14 rfl hs.2.1 (by omega) (by decide) rfl ?_
  exact rq_vret rfl rfl ⟨rfl, sm.rf.set (sIn_k (k := 1) (by decide)), hs.pw⟩
theorem p_X5_add (d : Nat) {m : Nat} {G : ma_G} {a : Nat} {Wk B E : Nat → Int32} {wr wp : Int32} (hs : sk G a Wk B E wr (nI m) wp) (hm : m < 96) (x y : Int32) : Cq (d + 1) 60 [.ref a, .int x, .int y] G (skQ5 G a Wk (upd B m x) (upd E m y) wr (nI (m + 1)) wp) := by
  refine cq_of rfl ?_
  refine rq_st 1 rfl rfl ?_
  refine rq_getf 4 rfl hs.1 rfl rfl ?_
  refine rq_bp 6 (nI 96) rfl (by decide) rfl ?_
  refine rq_cmpf 9 rfl rfl (by rw [← Bool.not_eq_true, ma_cmpN (by omega) (by omega)]; show ¬ 96 ≤ m; omega) ?_
  refine rq_st 10 rfl rfl ?_
  refine rq_getf 13 rfl hs.1 rfl rfl ?_
  refine rq_st 14 rfl rfl ?_
  refine rq_getf 17 rfl hs.1 rfl rfl ?_
  refine rq_st 18 rfl rfl ?_
  refine rq_iasN 19 rfl hs.2.2.1 (by omega) (by decide) rfl ?_
  have hs1 := hs.pb (g := upd B m x)
  refine rq_st 20 rfl rfl ?_
  refine rq_getf 23 rfl hs1.1 rfl rfl ?_
  refine rq_st 24 rfl rfl ?_
  refine rq_getf 27 rfl hs1.1 rfl rfl ?_
  refine rq_st 28 rfl rfl ?_
  refine rq_iasN 29 rfl hs1.2.2.2 (by omega) (by decide) rfl ?_
  have hs2 := hs1.pe (g := upd E m y)
  refine rq_st 30 rfl rfl ?_
  refine rq_st 31 rfl rfl ?_
  refine rq_getf 34 rfl hs2.1 rfl rfl ?_
  refine rq_ic 35 (nI 1) rfl (by decide) rfl ?_
  refine rq_addN 36 rfl rfl ?_
  refine rq_puti 39 rfl hs2.1 (Nat.le_of_ble_eq_true rfl) rfl rfl ?_
  have hs3 := hs2.po (wr' := wr) (ec' := nI (m + 1)) (wp' := wp) (fs := [.ref (a + 1), .ref (a + 2), .ref (a + 3), .int wr, .int (nI (m + 1)), .int wp]) rfl
  exact rq_vret rfl rfl ⟨rfl, ((sm.rf.set (sIn_k (k := 2) (by decide))).set (sIn_k (k := 3) (by decide))).set sIn_0, hs3⟩
theorem p_X5_finish (d : Nat) {m : Nat} {G : ma_G} {a : Nat} {Wk B E : Nat → Int32} {wr wp : Int32} (hs : sk G a Wk B E wr (nI m) wp) (hm : m ≤ 96) : Cq (d + 1) 61 [.ref a] G (skQ5 G a Wk B E wr (nI m) (nI (1 + (m + 3) / 4))) := by
  refine cq_of rfl ?_
  refine rq_st 1 rfl rfl ?_
  refine rq_ic 2 (nI 1) rfl (by decide) rfl ?_
  refine rq_st 3 rfl rfl ?_
  refine rq_getf 6 rfl hs.1 rfl rfl ?_
  refine rq_ic 7 (nI 4) rfl (by decide) rfl ?_
  refine rq_addN 8 rfl rfl ?_
  refine rq_ic 9 (nI 1) rfl (by decide) rfl ?_
  refine rq_subN 10 rfl (by omega) rfl ?_
  refine rq_ic 11 (nI 4) rfl (by decide) rfl ?_
  refine rq_divN 12 rfl (by omega) (by decide) (by decide) rfl ?_
  refine rq_addN 13 rfl rfl ?_
  refine rq_puti 16 rfl hs.1 (Nat.le_of_ble_eq_true rfl) rfl rfl ?_
  have hs1 := hs.po (wr' := wr) (ec' := nI m) (wp' := nI (1 + (m + 4 - 1) / 4)) (fs := [.ref (a + 1), .ref (a + 2), .ref (a + 3), .int wr, .int (nI m), .int (nI (1 + (m + 4 - 1) / 4))]) rfl
  exact rq_vret rfl rfl ⟨rfl, sm.rf.set sIn_0, by rw [show m + 3 = m + 4 - 1 by omega]; exact hs1⟩
theorem nI_min {x y : Nat} (hx : x < 2 ^ 31) (hy : y < 2 ^ 31) : (if nI y < nI x then nI y else nI x) = nI (if y < x then y else x) := by
  by_cases q : y < x
  · rw [if_pos (nI_lt q hx), if_pos q]
  · rw [if_neg (fun p => q ((nI_ltI hy hx).mp p)), if_neg q]
theorem nI_max {x y : Nat} (hx : x < 2 ^ 31) (hy : y < 2 ^ 31) : (if nI x < nI y then nI y else nI x) = nI (if x < y then y else x) := by
  by_cases q : x < y
  · rw [if_pos (nI_lt q hy), if_pos q]
  · rw [if_neg (fun p => q ((nI_ltI hx hy).mp p)), if_neg q]
def ctW (w p : Nat) : Nat := if p < w then p else w
def ctE (m w p : Nat) : Nat := if (ctW w p - 1) * 4 < m then (ctW w p - 1) * 4 else m
theorem ctW_le (w p : Nat) : ctW w p ≤ w := by unfold ctW; split <;> omega
theorem ctE_rd (w p my : Nat) : ctE (rdN w my) w p = rdN (ctW w p) my := by
  have h := ctW_le w p
  unfold ctE rdN
  repeat' split
  all_goals omega
theorem p_X5_cutAt (d : Nat) {m w : Nat} {G : ma_G} {a : Nat} {Wk B E : Nat → Int32} {wr : Int32} (hs : sk G a Wk B E wr (nI m) (nI w)) (hw : w ≤ 25) (hm : m ≤ 96) (p : Nat) (hp : p < 2 ^ 31) : Cq (d + 1) 64 [.ref a, .int (nI p)] G (skQ5 G a Wk B E wr (nI (ctE m w p)) (nI (ctW w p))) := by
  refine cq_of rfl ?_
  refine rq_st 1 rfl rfl ?_
  refine rq_st 2 rfl rfl ?_
  refine rq_getf 5 rfl hs.1 rfl rfl ?_
  refine rq_st 6 rfl rfl ?_
  refine rq_st 9 rfl rfl ?_
  rw [nI_min (by omega) (by omega), show (if p < w then p else w) = ctW w p from rfl]
  refine rq_puti 12 rfl hs.1 (Nat.le_of_ble_eq_true rfl) rfl rfl ?_
  have hs1 := hs.po (wr' := wr) (ec' := nI m) (wp' := nI (ctW w p)) (fs := [.ref (a + 1), .ref (a + 2), .ref (a + 3), .int wr, .int (nI m), .int (nI (ctW w p))]) rfl
  have hcw := ctW_le w p
  have J22 : ∀ G1 : ma_G, sk G1 a Wk B E wr (nI m) (nI (ctW w p)) → sm (sIn a) G G1 → Rq d M_X5_cutAt 22 [some (.ref a), some (.int (nI p)), none] [.int (nI (ctW w p - 1))] G1 (Qr (skQ5 G a Wk B E wr (nI (ctE m w p)) (nI (ctW w p)))) := by
    intro G1 hs1 hsm
    refine rq_st 23 rfl rfl ?_
    refine rq_st 24 rfl rfl ?_
    refine rq_st 25 rfl rfl ?_
    refine rq_getf 28 rfl hs1.1 rfl rfl ?_
    refine rq_st 29 rfl rfl ?_
    refine rq_ic 30 (nI 4) rfl (by decide) rfl ?_
    refine rq_mulN 31 rfl rfl ?_
    refine rq_st 34 rfl rfl ?_
    rw [nI_min (by omega) (by omega), show (if (ctW w p - 1) * 4 < m then (ctW w p - 1) * 4 else m) = ctE m w p from rfl]
    refine rq_puti 37 rfl hs1.1 (Nat.le_of_ble_eq_true rfl) rfl rfl ?_
    have hs2 := hs1.po (wr' := wr) (ec' := nI (ctE m w p)) (wp' := nI (ctW w p)) (fs := [.ref (a + 1), .ref (a + 2), .ref (a + 3), .int wr, .int (nI (ctE m w p)), .int (nI (ctW w p))]) rfl
    exact rq_vret rfl rfl ⟨rfl, hsm.set sIn_0, hs2⟩
  by_cases h0 : ctW w p = 0
  · skip
    refine rq_ic 13 (nI 0) rfl (by decide) rfl ?_
    refine rq_st 14 rfl rfl ?_
    refine rq_getf 17 rfl hs1.1 rfl rfl ?_
    refine rq_ic 18 (nI 1) rfl (by decide) rfl ?_
    refine rq_st 19 rfl rfl ?_
    refine rq_st 22 rfl rfl ?_
    rw [show (if nI 0 < nI (ctW w p) - nI 1 then nI (ctW w p) - nI 1 else nI 0) = nI (ctW w p - 1) by rw [h0]; decide]
    exact J22 _ hs1 (sm.rf.set sIn_0)
  · skip
    refine rq_ic 13 (nI 0) rfl (by decide) rfl ?_
    refine rq_st 14 rfl rfl ?_
    refine rq_getf 17 rfl hs1.1 rfl rfl ?_
    refine rq_ic 18 (nI 1) rfl (by decide) rfl ?_
    refine rq_subN 19 rfl (by omega) rfl ?_
    refine rq_st 22 rfl rfl ?_
    rw [nI_max (by omega) (by omega), show (if 0 < ctW w p - 1 then ctW w p - 1 else 0) = ctW w p - 1 by split <;> omega]
    exact J22 _ hs1 (sm.rf.set sIn_0)
