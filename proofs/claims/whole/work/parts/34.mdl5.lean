def okSt (A : Nat → Nat → Int32) (n : Nat → Nat) (c i : Int32) : Prop := ∃ p x, p < 4 ∧ x < n p ∧ c = nI p ∧ i = nI x ∧ A 3 (24 * p + x) = nI 1
def skQ (b : Nat) (A : Nat → Nat → Int32) (n : Nat → Nat) (cn lt gd : Int32) (G : ma_G) (c i : Int32) (r : Option Value) (G' : ma_G) : Prop := sm (mIn b) G G' ∧ ((¬ okSt A n c i ∧ r = some (.int (nI 0)) ∧ mdl b A (nI 1) cn lt gd G') ∨ ∃ p x, p < 4 ∧ x < n p ∧ c = nI p ∧ i = nI x ∧ A 3 (24 * p + x) = nI 1 ∧ ((strk A p (nI x) (n p) ∧ r = some (.int (nI 0)) ∧ mdl b A (nI 2) cn lt gd G') ∨ (¬ strk A p (nI x) (n p) ∧ ntP b A cn lt gd p (n p) (nI 2) (nI x) (nI 0) (nI 0) (nI 0) r G')))
theorem nI_inj {a c : Nat} (ha : a < 2 ^ 31) (hc : c < 2 ^ 31) (h : nI a = nI c) : a = c := (nI_eq ha hc).mp h
theorem p_X7_strike (d : Nat) {b : Nat} {A : Nat → Nat → Int32} {t cn lt gd : Int32} {G : ma_G} (hm : mdl b A t cn lt gd G) {n : Nat → Nat} {kn : Nat → Nat → Nat} (hk : mKn A n kn) (c i : Int32) : Cq (d + 2) 106 [.ref b, .int c, .int i] G (skQ b A n cn lt gd G c i) := by
  refine cq_of rfl ?_
  have Jb : ∀ c i : Int32, ¬ okSt A n c i → Rq (d + 1) M_X7_strike 38 [some (.ref b), some (.int c), some (.int i)] [.ref b] G (Qr (skQ b A n cn lt gd G c i)) := by
    intro c i hbad
    refine rq_ic 39 (nI 1) rfl (by decide) rfl ?_
    refine rq_puti 42 rfl hm.1 (Nat.le_of_ble_eq_true rfl) rfl rfl ?_
    have hm1 := hm.thr (nI 1)
    refine rq_st 43 rfl rfl ?_
    refine rq_getf 46 rfl hm1.1 rfl rfl ?_
    refine rq_iff 49 rfl rfl (by decide) ?_
    refine rq_ic 50 (nI 0) rfl (by decide) rfl ?_
    exact rq_iret rfl rfl rfl ⟨sm.rf.set (mIn_0 b), Or.inl ⟨hbad, rfl, hm1⟩⟩
  refine rq_st 1 rfl rfl ?_
  refine rq_st 2 rfl rfl ?_
  refine rq_ic 3 (nI 4) rfl (by decide) rfl ?_
  refine rq_call [_, _] _ 6 rfl rfl rfl rfl rfl (Nat.le_of_ble_eq_true rfl) (cats rfl) (rcv_n rfl) (p_X7_isIn d _ 4 (by decide) _) rfl ?_
  refine rq_ifB 9 rfl rfl (fun h6 => ?_) (fun h6 => ?_)
  · skip
    exact Jb _ _ (fun ⟨p, x, hp, _, hq, _⟩ => h6 ⟨p, hp, hq⟩)
  · skip
    obtain ⟨p, hp, rfl⟩ := h6
    have hn24 := (hk.1 p hp).2
    refine rq_st 10 rfl rfl ?_
    refine rq_st 11 rfl rfl ?_
    refine rq_getf 14 rfl hm.1 rfl rfl ?_
    refine rq_st 15 rfl rfl ?_
    refine rq_ic 16 (nI 4) rfl (by decide) rfl ?_
    refine rq_call [_, _] _ 19 rfl rfl rfl rfl rfl (Nat.le_of_ble_eq_true rfl) (cats rfl) (rcv_n rfl) (p_X7_isIn d _ 4 (by decide) _) rfl ?_
    refine rq_iff 22 rfl rfl (by rw [← Bool.not_eq_true, (bI_if _).1]; exact fun q => q (⟨p, hp, rfl⟩)) ?_
    refine rq_st 23 rfl rfl ?_
    refine rq_st 27 rfl rfl ?_
    refine rq_ialN 28 rfl (hm.arr 2 (n := 4) (by decide) rfl rfl) (by omega) (by decide) rfl ?_
    rw [(hk.1 p hp).1]
    refine rq_call [_, _] _ 31 rfl rfl rfl rfl rfl (Nat.le_of_ble_eq_true rfl) (cats rfl) (rcv_n rfl) (p_X7_isIn d _ _ (by omega) _) rfl ?_
    refine rq_ifB 34 rfl rfl (fun h31 => ?_) (fun h31 => ?_)
    · skip
      exact Jb _ _ (fun ⟨p2, x, hp2, hx, hq, hq2, _⟩ => h31 ⟨x, by rw [nI_inj (by omega) (by omega) hq]; exact hx, hq2⟩)
    · skip
      obtain ⟨x, hx, rfl⟩ := h31
      refine rq_ic 35 (nI 0) rfl (by decide) rfl ?_
      refine rq_st 39 rfl rfl ?_
      refine rq_puti 42 rfl hm.1 (Nat.le_of_ble_eq_true rfl) rfl rfl ?_
      have hm1 := hm.thr (nI 0)
      have J91 : ∀ z : Nat, (z = 1 ∧ ¬ A 3 (24 * p + x) = nI 1 ∨ z = 2 ∧ A 3 (24 * p + x) = nI 1 ∧ strk A p (nI x) (n p) ∨ z = 0 ∧ A 3 (24 * p + x) = nI 1 ∧ ¬ strk A p (nI x) (n p)) → Rq (d + 1) M_X7_strike 91 [some (.ref b), some (.int (nI p)), some (.int (nI x))] [.int (nI z), .ref b] (G.set b (.inr (7, (mFs b t cn lt gd).set 0 (.int (nI 0))))) (Qr (skQ b A n cn lt gd G (nI p) (nI x))) := by
        intro z hz
        refine rq_puti 94 rfl hm1.1 (Nat.le_of_ble_eq_true rfl) rfl rfl ?_
        have hm2 := hm1.thr (nI z)
        have hs2 : sm (mIn b) G ((G.set b (.inr (7, (mFs b t cn lt gd).set 0 (.int (nI 0))))).set b (.inr (7, (mFs b (nI 0) cn lt gd).set 0 (.int (nI z))))) := (sm.rf.set (mIn_0 b)).set (mIn_0 b)
        rcases hz with ⟨rfl, hkd⟩ | ⟨rfl, hkd, hst⟩ | ⟨rfl, hkd, hst⟩
        · have hbad : ¬ okSt A n (nI p) (nI x) := fun ⟨p2, x2, hp2, hx2, e1, e2, e3⟩ => hkd (by rw [nI_inj (by omega) (by omega) e1, nI_inj (by omega) (by have := (hk.1 p2 hp2).2; omega) e2]; exact e3)
          refine rq_st 95 rfl rfl ?_
          refine rq_getf 98 rfl hm2.1 rfl rfl ?_
          refine rq_iff 101 rfl rfl (by decide) ?_
          refine rq_ic 102 (nI 0) rfl (by decide) rfl ?_
          refine rq_st 115 rfl rfl ?_
          exact rq_iret rfl rfl rfl (by first | exact ⟨hs2, Or.inl ⟨hbad, rfl, hm2⟩⟩ | exact ⟨hs2, Or.inr ⟨p, x, hp, hx, rfl, rfl, hkd, Or.inl ⟨hst, rfl, hm2⟩⟩⟩)
        · skip
          refine rq_st 95 rfl rfl ?_
          refine rq_getf 98 rfl hm2.1 rfl rfl ?_
          refine rq_iff 101 rfl rfl (by decide) ?_
          refine rq_ic 102 (nI 0) rfl (by decide) rfl ?_
          refine rq_st 115 rfl rfl ?_
          exact rq_iret rfl rfl rfl (by first | exact ⟨hs2, Or.inl ⟨hbad, rfl, hm2⟩⟩ | exact ⟨hs2, Or.inr ⟨p, x, hp, hx, rfl, rfl, hkd, Or.inl ⟨hst, rfl, hm2⟩⟩⟩)
        · skip
          refine rq_st 95 rfl rfl ?_
          refine rq_getf 98 rfl hm2.1 rfl rfl ?_
          refine rq_ift rfl (by decide) ?_
          refine rq_st 106 rfl rfl ?_
          refine rq_st 107 rfl rfl ?_
          refine rq_ic 108 (nI 2) rfl (by decide) rfl ?_
          refine rq_st 109 rfl rfl ?_
          refine rq_ic 110 (nI 0) rfl (by decide) rfl ?_
          refine rq_ic 111 (nI 0) rfl (by decide) rfl ?_
          refine rq_ic 112 (nI 0) rfl (by decide) rfl ?_
          refine rq_callq [_, _, _, _, _, _, _] _ 115 rfl rfl rfl rfl rfl (Nat.le_of_ble_eq_true rfl) (cats rfl) (rcv_s rfl hm2.1) (p_X7_note d hm2 p hp (n p) (hk.1 p hp).2 (hk.1 p hp).1 _ _ _ _ _) rfl (fun v9 G9 hv9 => ?_)
          obtain ⟨hs1, ⟨h24, rfl, hm9⟩ | ⟨h24, rfl, hm9⟩⟩ := hv9
          · exact rq_iret rfl rfl rfl ⟨hs2.tr hs1, Or.inr ⟨p, x, hp, hx, rfl, rfl, hkd, Or.inr ⟨hst, Or.inl ⟨h24, rfl, hm9⟩⟩⟩⟩
          · exact rq_iret rfl rfl rfl ⟨hs2.tr hs1, Or.inr ⟨p, x, hp, hx, rfl, rfl, hkd, Or.inr ⟨hst, Or.inr ⟨h24, rfl, hm9⟩⟩⟩⟩
      refine rq_st 43 rfl rfl ?_
      refine rq_getf 46 rfl hm1.1 rfl rfl ?_
      refine rq_ift rfl (by decide) ?_
      refine rq_st 52 rfl rfl ?_
      refine rq_st 53 rfl rfl ?_
      refine rq_getf 56 rfl hm1.1 rfl rfl ?_
      refine rq_bp 58 (nI 24) rfl (by decide) rfl ?_
      refine rq_st 59 rfl rfl ?_
      refine rq_mulN 60 rfl rfl ?_
      refine rq_st 61 rfl rfl ?_
      refine rq_addN 62 rfl rfl ?_
      refine rq_ialN 63 rfl (hm1.arr 3 (n := 96) (by decide) rfl rfl) (by omega) (by decide) rfl ?_
      refine rq_ic 64 (nI 1) rfl (by decide) rfl ?_
      refine rq_cmpI 67 rfl rfl (fun h64 => ?_) (fun h64 => ?_)
      · dsimp only [cI] at h64
        skip
        refine rq_st 72 rfl rfl ?_
        refine rq_st 73 rfl rfl ?_
        refine rq_st 74 rfl rfl ?_
        refine rq_st 75 rfl rfl ?_
        refine rq_getf 78 rfl hm1.1 rfl rfl ?_
        refine rq_st 79 rfl rfl ?_
        refine rq_ialN 80 rfl (hm1.arr 2 (n := 4) (by decide) rfl rfl) (by omega) (by decide) rfl ?_
        rw [(hk.1 p hp).1]
        refine rq_call [_, _, _, _] _ 83 rfl rfl rfl rfl rfl (Nat.le_of_ble_eq_true rfl) (cats rfl) (rcv_s rfl hm1.1) (p_X7_isStruck d hm1 p hp (nI x) (n p) hn24) rfl ?_
        refine rq_ifB 86 rfl rfl (fun h83 => ?_) (fun h83 => ?_)
        · skip
          refine rq_ic 91 (nI 0) rfl (by decide) rfl ?_
          first | exact J91 1 (Or.inl ⟨rfl, h64⟩) | exact J91 2 (Or.inr (Or.inl ⟨rfl, h64, h83⟩)) | exact J91 0 (Or.inr (Or.inr ⟨rfl, h64, h83⟩))
        · skip
          refine rq_ic 87 (nI 2) rfl (by decide) rfl ?_
          refine rq_st 91 rfl rfl ?_
          first | exact J91 1 (Or.inl ⟨rfl, h64⟩) | exact J91 2 (Or.inr (Or.inl ⟨rfl, h64, h83⟩)) | exact J91 0 (Or.inr (Or.inr ⟨rfl, h64, h83⟩))
      · dsimp only [cI] at h64
        skip
        refine rq_ic 68 (nI 1) rfl (by decide) rfl ?_
        refine rq_st 91 rfl rfl ?_
        first | exact J91 1 (Or.inl ⟨rfl, h64⟩) | exact J91 2 (Or.inr (Or.inl ⟨rfl, h64, h83⟩)) | exact J91 0 (Or.inr (Or.inr ⟨rfl, h64, h83⟩))
def okSc (v n g1 g2 g3 : Int32) : Prop := (inN v 3 ∧ ¬ n < nI 1 ∧ ¬ nI 4 < n) ∧ (n < nI 2 ∨ inN g1 1001) ∧ (n < nI 3 ∨ inN g2 1001) ∧ (n < nI 4 ∨ inN g3 1001)
def anyN (n : Nat → Nat) : Prop := 0 < n 0 + n 1 + n 2 + n 3
def scA (A : Nat → Nat → Int32) (v : Nat) (n g1 g2 g3 : Int32) : Nat → Nat → Int32 := va_up (va_up A 0 (upd (A 0) v n)) 1 (upd (upd (upd (A 1) (4 * v + 1) g1) (4 * v + 2) g2) (4 * v + 3) g3)
def scQ (b : Nat) (A : Nat → Nat → Int32) (n : Nat → Nat) (cn lt gd : Int32) (G : ma_G) (v z g1 g2 g3 : Int32) (r : Option Value) (G' : ma_G) : Prop := sm (mIn b) G G' ∧ r = none ∧ ((¬ okSc v z g1 g2 g3 ∧ mdl b A (nI 1) cn lt gd G') ∨ (okSc v z g1 g2 g3 ∧ anyN n ∧ mdl b A (nI 2) cn lt gd G') ∨ (okSc v z g1 g2 g3 ∧ ¬ anyN n ∧ ∃ p, p < 3 ∧ v = nI p ∧ mdl b (scA A p z g1 g2 g3) (nI 0) cn lt gd G'))
set_option maxHeartbeats 1000000 in
theorem p_X7_schedule (d : Nat) {b : Nat} {A : Nat → Nat → Int32} {t cn lt gd : Int32} {G : ma_G} (hm : mdl b A t cn lt gd G) {n : Nat → Nat} {kn : Nat → Nat → Nat} (hk : mKn A n kn) (v z g1 g2 g3 : Int32) : Cq (d + 2) 102 [.ref b, .int v, .int z, .int g1, .int g2, .int g3] G (scQ b A n cn lt gd G v z g1 g2 g3) := by
  refine cq_of rfl ?_
  have J141 : ∀ (y : Nat) (o6 o7 : Option Value), (y = 1 ∧ ¬ (okSc v z g1 g2 g3) ∨ y = 2 ∧ (okSc v z g1 g2 g3) ∧ anyN n ∨ y = 0 ∧ (okSc v z g1 g2 g3) ∧ ¬ anyN n) → Rq (d + 1) M_X7_schedule 141 [some (.ref b), some (.int v), some (.int z), some (.int g1), some (.int g2), some (.int g3), o6, o7] [.int (nI y), .ref b] G (Qr (scQ b A n cn lt gd G v z g1 g2 g3)) := by
    intro y o6 o7 hy
    refine rq_puti 144 rfl hm.1 (Nat.le_of_ble_eq_true rfl) rfl rfl ?_
    have hm1 := hm.thr (nI y)
    have hs1 : sm (mIn b) G (G.set b (.inr (7, (mFs b t cn lt gd).set 0 (.int (nI y))))) := sm.rf.set (mIn_0 b)
    rcases hy with ⟨rfl, ho⟩ | ⟨rfl, ho, ha⟩ | ⟨rfl, ho, ha⟩
    · skip
      refine rq_st 145 rfl rfl ?_
      refine rq_getf 148 rfl hm1.1 rfl rfl ?_
      refine rq_ift rfl (by decide) ?_
      exact rq_vret rfl rfl (by first | exact ⟨hs1, rfl, Or.inl ⟨ho, hm1⟩⟩ | exact ⟨hs1, rfl, Or.inr (Or.inl ⟨ho, ha, hm1⟩)⟩)
    · skip
      refine rq_st 145 rfl rfl ?_
      refine rq_getf 148 rfl hm1.1 rfl rfl ?_
      refine rq_ift rfl (by decide) ?_
      exact rq_vret rfl rfl (by first | exact ⟨hs1, rfl, Or.inl ⟨ho, hm1⟩⟩ | exact ⟨hs1, rfl, Or.inr (Or.inl ⟨ho, ha, hm1⟩)⟩)
    · obtain ⟨p, hp, rfl⟩ := ho.1.1
      refine rq_st 145 rfl rfl ?_
      refine rq_getf 148 rfl hm1.1 rfl rfl ?_
      refine rq_iff 151 rfl rfl (by decide) ?_
      refine rq_st 152 rfl rfl ?_
      refine rq_getf 155 rfl hm1.1 rfl rfl ?_
      refine rq_st 156 rfl rfl ?_
      refine rq_st 157 rfl rfl ?_
      refine rq_iasN 158 rfl (hm1.arr 0 (n := 3) (by decide) rfl rfl) (by omega) (by decide) rfl ?_
      have hm2 := hm1.aput 0 (x := b + 1) (n := 3) (g := (upd (A 0) p z)) (by decide) rfl rfl
      refine rq_st 159 rfl rfl ?_
      refine rq_getf 162 rfl hm2.1 rfl rfl ?_
      refine rq_ic 163 (nI 4) rfl (by decide) rfl ?_
      refine rq_st 164 rfl rfl ?_
      refine rq_mulN 165 rfl rfl ?_
      refine rq_ic 166 (nI 1) rfl (by decide) rfl ?_
      refine rq_addN 167 rfl rfl ?_
      refine rq_st 168 rfl rfl ?_
      refine rq_iasN 169 rfl (hm2.arrE 1 (n := 12) (f := (A 1)) (by decide) rfl rfl rfl) (by omega) (by decide) rfl ?_
      have hm3 := hm2.aput 1 (x := b + 2) (n := 12) (g := (upd (A 1) (4 * p + 1) g1)) (by decide) rfl rfl
      refine rq_st 170 rfl rfl ?_
      refine rq_getf 173 rfl hm3.1 rfl rfl ?_
      refine rq_ic 174 (nI 4) rfl (by decide) rfl ?_
      refine rq_st 175 rfl rfl ?_
      refine rq_mulN 176 rfl rfl ?_
      refine rq_ic 177 (nI 2) rfl (by decide) rfl ?_
      refine rq_addN 178 rfl rfl ?_
      refine rq_st 180 rfl rfl ?_
      refine rq_iasN 181 rfl (hm3.arrE 1 (n := 12) (f := (upd (A 1) (4 * p + 1) g1)) (by decide) rfl rfl rfl) (by omega) (by decide) rfl ?_
      have hm4 := hm3.aput 1 (x := b + 2) (n := 12) (g := (upd (upd (A 1) (4 * p + 1) g1) (4 * p + 2) g2)) (by decide) rfl rfl
      rw [bx_uu] at hm4
      refine rq_st 182 rfl rfl ?_
      refine rq_getf 185 rfl hm4.1 rfl rfl ?_
      refine rq_ic 186 (nI 4) rfl (by decide) rfl ?_
      refine rq_st 187 rfl rfl ?_
      refine rq_mulN 188 rfl rfl ?_
      refine rq_ic 189 (nI 3) rfl (by decide) rfl ?_
      refine rq_addN 190 rfl rfl ?_
      refine rq_st 192 rfl rfl ?_
      refine rq_iasN 193 rfl (hm4.arrE 1 (n := 12) (f := (upd (upd (A 1) (4 * p + 1) g1) (4 * p + 2) g2)) (by decide) rfl rfl rfl) (by omega) (by decide) rfl ?_
      have hm5 := hm4.aput 1 (x := b + 2) (n := 12) (g := (upd (upd (upd (A 1) (4 * p + 1) g1) (4 * p + 2) g2) (4 * p + 3) g3)) (by decide) rfl rfl
      rw [bx_uu] at hm5
      exact rq_vret rfl rfl ⟨(((hs1.set (mIn_k (by decide))).set (mIn_k (by decide))).set (mIn_k (by decide))).set (mIn_k (by decide)), rfl, Or.inr (Or.inr ⟨ho, ha, p, hp, rfl, hm5⟩)⟩
  have J119 : ∀ (u : Int32) (o7 : Option Value), u = bI (anyN n) → Rq (d + 1) M_X7_schedule 119 [some (.ref b), some (.int v), some (.int z), some (.int g1), some (.int g2), some (.int g3), some (.int (bI (okSc v z g1 g2 g3))), o7] [.int u] G (Qr (scQ b A n cn lt gd G v z g1 g2 g3)) := by
    intro u o7 hu
    subst hu
    refine rq_st 121 rfl rfl ?_
    refine rq_st 122 rfl rfl ?_
    refine rq_st 124 rfl rfl ?_
    refine rq_ifnB 127 rfl rfl (fun h124 => ?_) (fun h124 => ?_)
    · skip
      refine rq_st 133 rfl rfl ?_
      refine rq_ifB 136 rfl rfl (fun h133 => ?_) (fun h133 => ?_)
      · skip
        refine rq_ic 141 (nI 0) rfl (by decide) rfl ?_
        first | exact J141 1 _ _ (Or.inl ⟨rfl, h124⟩) | exact J141 2 _ _ (Or.inr (Or.inl ⟨rfl, h124, h133⟩)) | exact J141 0 _ _ (Or.inr (Or.inr ⟨rfl, h124, h133⟩))
      · skip
        refine rq_ic 137 (nI 2) rfl (by decide) rfl ?_
        refine rq_st 141 rfl rfl ?_
        first | exact J141 1 _ _ (Or.inl ⟨rfl, h124⟩) | exact J141 2 _ _ (Or.inr (Or.inl ⟨rfl, h124, h133⟩)) | exact J141 0 _ _ (Or.inr (Or.inr ⟨rfl, h124, h133⟩))
    · skip
      refine rq_ic 128 (nI 1) rfl (by decide) rfl ?_
      refine rq_st 141 rfl rfl ?_
      first | exact J141 1 _ _ (Or.inl ⟨rfl, h124⟩) | exact J141 2 _ _ (Or.inr (Or.inl ⟨rfl, h124, h133⟩)) | exact J141 0 _ _ (Or.inr (Or.inr ⟨rfl, h124, h133⟩))
  have J82 : ∀ u : Int32, u = bI (okSc v z g1 g2 g3) → ∀ {o6 : Option Value}, Rq (d + 1) M_X7_schedule 82 [some (.ref b), some (.int v), some (.int z), some (.int g1), some (.int g2), some (.int g3), o6, none] [.int u] G (Qr (scQ b A n cn lt gd G v z g1 g2 g3)) := by
    intro u hu o6
    subst hu
    refine rq_st 84 rfl rfl ?_
    refine rq_st 85 rfl rfl ?_
    refine rq_getf 88 rfl hm.1 rfl rfl ?_
    refine rq_ic 89 (nI 0) rfl (by decide) rfl ?_
    refine rq_ialN 90 rfl (hm.arr 2 (n := 4) (by decide) rfl rfl) (by omega) (by decide) rfl ?_
    rw [(hk.1 0 (by decide)).1]
    refine rq_st 91 rfl rfl ?_
    refine rq_getf 94 rfl hm.1 rfl rfl ?_
    refine rq_ic 95 (nI 1) rfl (by decide) rfl ?_
    refine rq_ialN 96 rfl (hm.arr 2 (n := 4) (by decide) rfl rfl) (by omega) (by decide) rfl ?_
    rw [(hk.1 1 (by decide)).1]
    refine rq_addN 97 rfl rfl ?_
    refine rq_st 98 rfl rfl ?_
    refine rq_getf 101 rfl hm.1 rfl rfl ?_
    refine rq_ic 102 (nI 2) rfl (by decide) rfl ?_
    refine rq_ialN 103 rfl (hm.arr 2 (n := 4) (by decide) rfl rfl) (by omega) (by decide) rfl ?_
    rw [(hk.1 2 (by decide)).1]
    refine rq_addN 104 rfl rfl ?_
    refine rq_st 105 rfl rfl ?_
    refine rq_getf 108 rfl hm.1 rfl rfl ?_
    refine rq_ic 109 (nI 3) rfl (by decide) rfl ?_
    refine rq_ialN 110 rfl (hm.arr 2 (n := 4) (by decide) rfl rfl) (by omega) (by decide) rfl ?_
    rw [(hk.1 3 (by decide)).1]
    have hn0 := (hk.1 0 (by decide)).2
    have hn1 := (hk.1 1 (by decide)).2
    have hn2 := (hk.1 2 (by decide)).2
    have hn3 := (hk.1 3 (by decide)).2
    refine rq_addN 111 rfl rfl ?_
    refine rq_ifN 114 rfl rfl (by omega) (fun h111 => ?_) (fun h111 => ?_)
    · dsimp only [cN] at h111
      have hz : ¬ anyN n := by unfold anyN; omega
      refine rq_ic 119 (nI 0) rfl (by decide) rfl ?_
      exact J119 _ _ (by first | exact (bI_t hz).symm | exact (bI_f hz).symm)
    · dsimp only [cN] at h111
      have hz : anyN n := by unfold anyN; omega
      refine rq_ic 115 (nI 1) rfl (by decide) rfl ?_
      refine rq_st 119 rfl rfl ?_
      exact J119 _ _ (by first | exact (bI_t hz).symm | exact (bI_f hz).symm)
  have J61 : ∀ o6 : Option Value, (inN v 3 ∧ ¬ z < nI 1 ∧ ¬ nI 4 < z) → (z < nI 2 ∨ inN g1 1001) → (z < nI 3 ∨ inN g2 1001) → Rq (d + 1) M_X7_schedule 61 [some (.ref b), some (.int v), some (.int z), some (.int g1), some (.int g2), some (.int g3), o6, none] [] G (Qr (scQ b A n cn lt gd G v z g1 g2 g3)) := by
    intro o6 hf1 g1o g2o
    refine rq_st 62 rfl rfl ?_
    refine rq_ic 63 (nI 4) rfl (by decide) rfl ?_
    refine rq_cmpI 66 rfl rfl (fun h63 => ?_) (fun h63 => ?_)
    · dsimp only [cI] at h63
      have g3o : z < nI 4 ∨ inN g3 1001 := Or.inl h63
      refine rq_ic 78 (nI 1) rfl (by decide) rfl ?_
      refine rq_st 82 rfl rfl ?_
      exact J82 _ (bI_t (⟨hf1, g1o, g2o, g3o⟩ : (okSc v z g1 g2 g3))).symm
    · dsimp only [cI] at h63
      refine rq_st 68 rfl rfl ?_
      refine rq_sp 71 (nI 1001) rfl (by decide) rfl ?_
      refine rq_call [_, _] _ 74 rfl rfl rfl rfl rfl (Nat.le_of_ble_eq_true rfl) (cats rfl) (rcv_n rfl) (p_X7_isIn d _ 1001 (by decide) _) rfl ?_
      refine rq_ifB 77 rfl rfl (fun h74 => ?_) (fun h74 => ?_)
      · skip
        refine rq_ic 82 (nI 0) rfl (by decide) rfl ?_
        exact J82 _ (bI_f (fun q : (okSc v z g1 g2 g3) => q.2.2.2.elim h63 h74)).symm
      · skip
        have g3o : z < nI 4 ∨ inN g3 1001 := Or.inr h74
        refine rq_ic 78 (nI 1) rfl (by decide) rfl ?_
        refine rq_st 82 rfl rfl ?_
        exact J82 _ (bI_t (⟨hf1, g1o, g2o, g3o⟩ : (okSc v z g1 g2 g3))).symm
  have J45 : ∀ o6 : Option Value, (inN v 3 ∧ ¬ z < nI 1 ∧ ¬ nI 4 < z) → (z < nI 2 ∨ inN g1 1001) → Rq (d + 1) M_X7_schedule 45 [some (.ref b), some (.int v), some (.int z), some (.int g1), some (.int g2), some (.int g3), o6, none] [] G (Qr (scQ b A n cn lt gd G v z g1 g2 g3)) := by
    intro o6 hf1 g1o
    refine rq_st 46 rfl rfl ?_
    refine rq_ic 47 (nI 3) rfl (by decide) rfl ?_
    refine rq_cmpI 50 rfl rfl (fun h47 => ?_) (fun h47 => ?_)
    · dsimp only [cI] at h47
      have g2o : z < nI 3 ∨ inN g2 1001 := Or.inl h47
      exact J61 _ hf1 g1o g2o
    · dsimp only [cI] at h47
      refine rq_st 52 rfl rfl ?_
      refine rq_sp 55 (nI 1001) rfl (by decide) rfl ?_
      refine rq_call [_, _] _ 58 rfl rfl rfl rfl rfl (Nat.le_of_ble_eq_true rfl) (cats rfl) (rcv_n rfl) (p_X7_isIn d _ 1001 (by decide) _) rfl ?_
      refine rq_ifB 61 rfl rfl (fun h58 => ?_) (fun h58 => ?_)
      · skip
        refine rq_ic 82 (nI 0) rfl (by decide) rfl ?_
        exact J82 _ (bI_f (fun q : (okSc v z g1 g2 g3) => q.2.2.1.elim h47 h58)).symm
      · skip
        have g2o : z < nI 3 ∨ inN g2 1001 := Or.inr h58
        exact J61 _ hf1 g1o g2o
  have J23 : ∀ u : Int32, u = bI (inN v 3 ∧ ¬ z < nI 1 ∧ ¬ nI 4 < z) → Rq (d + 1) M_X7_schedule 23 [some (.ref b), some (.int v), some (.int z), some (.int g1), some (.int g2), some (.int g3), none, none] [.int u] G (Qr (scQ b A n cn lt gd G v z g1 g2 g3)) := by
    intro u hu
    subst hu
    refine rq_st 25 rfl rfl ?_
    refine rq_st 27 rfl rfl ?_
    refine rq_ifB 30 rfl rfl (fun h27 => ?_) (fun h27 => ?_)
    · skip
      refine rq_ic 82 (nI 0) rfl (by decide) rfl ?_
      exact J82 _ (bI_f (fun q : (okSc v z g1 g2 g3) => h27 q.1)).symm
    · skip
      refine rq_st 31 rfl rfl ?_
      refine rq_ic 32 (nI 2) rfl (by decide) rfl ?_
      refine rq_cmpI 35 rfl rfl (fun h32 => ?_) (fun h32 => ?_)
      · dsimp only [cI] at h32
        have g1o : z < nI 2 ∨ inN g1 1001 := Or.inl h32
        exact J45 _ h27 g1o
      · dsimp only [cI] at h32
        have hx1 := h32
        refine rq_st 36 rfl rfl ?_
        refine rq_sp 39 (nI 1001) rfl (by decide) rfl ?_
        refine rq_call [_, _] _ 42 rfl rfl rfl rfl rfl (Nat.le_of_ble_eq_true rfl) (cats rfl) (rcv_n rfl) (p_X7_isIn d _ 1001 (by decide) _) rfl ?_
        refine rq_ifB 45 rfl rfl (fun h42 => ?_) (fun h42 => ?_)
        · skip
          refine rq_ic 82 (nI 0) rfl (by decide) rfl ?_
          exact J82 _ (bI_f (fun q : (okSc v z g1 g2 g3) => q.2.1.elim h32 h42)).symm
        · skip
          have g1o : z < nI 2 ∨ inN g1 1001 := Or.inr h42
          exact J45 _ h27 g1o
  refine rq_st 1 rfl rfl ?_
  refine rq_ic 2 (nI 3) rfl (by decide) rfl ?_
  refine rq_call [_, _] _ 5 rfl rfl rfl rfl rfl (Nat.le_of_ble_eq_true rfl) (cats rfl) (rcv_n rfl) (p_X7_isIn d _ 3 (by decide) _) rfl ?_
  refine rq_ifB 8 rfl rfl (fun h5 => ?_) (fun h5 => ?_)
  · skip
    have hz : ¬ (inN v 3 ∧ ¬ z < nI 1 ∧ ¬ nI 4 < z) := fun q => h5 q.1
    refine rq_ic 23 (nI 0) rfl (by decide) rfl ?_
    exact J23 _ (by first | exact (bI_t hz).symm | exact (bI_f hz).symm)
  · skip
    refine rq_st 9 rfl rfl ?_
    refine rq_ic 10 (nI 1) rfl (by decide) rfl ?_
    refine rq_cmpI 13 rfl rfl (fun h10 => ?_) (fun h10 => ?_)
    · dsimp only [cI] at h10
      have hz : ¬ (inN v 3 ∧ ¬ z < nI 1 ∧ ¬ nI 4 < z) := fun q => q.2.1 h10
      refine rq_ic 23 (nI 0) rfl (by decide) rfl ?_
      exact J23 _ (by first | exact (bI_t hz).symm | exact (bI_f hz).symm)
    · dsimp only [cI] at h10
      refine rq_st 14 rfl rfl ?_
      refine rq_ic 15 (nI 4) rfl (by decide) rfl ?_
      refine rq_cmpI 18 rfl rfl (fun h15 => ?_) (fun h15 => ?_)
      · dsimp only [cI] at h15
        have hz : ¬ (inN v 3 ∧ ¬ z < nI 1 ∧ ¬ nI 4 < z) := fun q => q.2.2 h15
        refine rq_ic 23 (nI 0) rfl (by decide) rfl ?_
        exact J23 _ (by first | exact (bI_t hz).symm | exact (bI_f hz).symm)
      · dsimp only [cI] at h15
        have hz : (inN v 3 ∧ ¬ z < nI 1 ∧ ¬ nI 4 < z) := ⟨h5, h10, h15⟩
        refine rq_ic 19 (nI 1) rfl (by decide) rfl ?_
        refine rq_st 23 rfl rfl ?_
        exact J23 _ (by first | exact (bI_t hz).symm | exact (bI_f hz).symm)
