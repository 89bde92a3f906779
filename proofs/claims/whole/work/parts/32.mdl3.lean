def ntP (b : Nat) (A : Nat → Nat → Int32) (cn lt gd : Int32) (c nc : Nat) (k a0 a1 a2 a3 : Int32) (r : Option Value) (G' : ma_G) : Prop := (nc = 24 ∧ r = some (.int (nI 0)) ∧ mdl b A (nI 2) cn lt gd G') ∨ (nc < 24 ∧ r = some (.int (nI nc)) ∧ mdl b (ntA A c nc k a0 a1 a2 a3) (nI 0) cn lt gd G')
/-- a call that would note an entry, where ok says that its arguments are good -/
def adQ (b : Nat) (A : Nat → Nat → Int32) (n : Nat → Nat) (cn lt gd : Int32) (G : ma_G) (ok : Prop) (c k a0 a1 a2 a3 : Int32) (r : Option Value) (G' : ma_G) : Prop := sm (mIn b) G G' ∧ ((¬ ok ∧ r = some (.int (nI 0)) ∧ mdl b A (nI 1) cn lt gd G') ∨ (ok ∧ ∃ cc, cc < 4 ∧ c = nI cc ∧ ntP b A cn lt gd cc (n cc) k a0 a1 a2 a3 r G'))
theorem mdl.thr {b : Nat} {A : Nat → Nat → Int32} {t cn lt gd : Int32} {G : ma_G} (h : mdl b A t cn lt gd G) (z : Int32) : mdl b A z cn lt gd (G.set b (.inr (7, (mFs b t cn lt gd).set 0 (.int z)))) := h.put rfl
def okDo (c p v lot day : Int32) : Prop := inN c 4 ∧ inN p 12 ∧ inN v 3 ∧ inN lot 10 ∧ inN day 40001
def okRe (c lot fr to : Int32) : Prop := inN c 4 ∧ inN lot 10 ∧ inN fr 40001 ∧ inN to 40001 ∧ fr ≤ to
def okSa (c p q : Int32) : Prop := inN c 4 ∧ inN p 12 ∧ inN q 12
theorem p_X7_dose (d : Nat) {b : Nat} {A : Nat → Nat → Int32} {t cn lt gd : Int32} {G : ma_G} (hm : mdl b A t cn lt gd G) {n : Nat → Nat} {kn : Nat → Nat → Nat} (hk : mKn A n kn) (c p v lot day : Int32) : Cq (d + 2) 104 [.ref b, .int c, .int p, .int v, .int lot, .int day] G (adQ b A n cn lt gd G (okDo c p v lot day) c (nI 1) p v lot day) := by
  refine cq_of rfl ?_
  have Jb : ¬ (okDo c p v lot day) → Rq (d + 1) M_X7_dose 50 [some (.ref b), some (.int c), some (.int p), some (.int v), some (.int lot), some (.int day)] [.ref b] G (Qr (adQ b A n cn lt gd G (okDo c p v lot day) c (nI 1) p v lot day)) := by
    intro hbad
    refine rq_ic 51 (nI 1) rfl (by decide) rfl ?_
    refine rq_puti 54 rfl hm.1 (Nat.le_of_ble_eq_true rfl) rfl rfl ?_
    have hm1 := hm.thr (nI 1)
    refine rq_st 55 rfl rfl ?_
    refine rq_getf 58 rfl hm1.1 rfl rfl ?_
    refine rq_iff 61 rfl rfl (by decide) ?_
    refine rq_ic 62 (nI 0) rfl (by decide) rfl ?_
    refine rq_st 77 rfl rfl ?_
    exact rq_iret rfl rfl rfl ⟨sm.rf.set (mIn_0 b), Or.inl ⟨hbad, rfl, hm1⟩⟩
  refine rq_st 1 rfl rfl ?_
  refine rq_st 2 rfl rfl ?_
  refine rq_ic 3 (nI 4) rfl (by decide) rfl ?_
  refine rq_call [_, _] _ 6 rfl rfl rfl rfl rfl (Nat.le_of_ble_eq_true rfl) (cats rfl) (rcv_n rfl) (p_X7_isIn d _ 4 (by decide) _) rfl ?_
  refine rq_ifB 9 rfl rfl (fun h6 => ?_) (fun h6 => ?_)
  · skip
    exact Jb (fun q => h6 q.1)
  · skip
    refine rq_st 10 rfl rfl ?_
    refine rq_bp 12 (nI 12) rfl (by decide) rfl ?_
    refine rq_call [_, _] _ 15 rfl rfl rfl rfl rfl (Nat.le_of_ble_eq_true rfl) (cats rfl) (rcv_n rfl) (p_X7_isIn d _ 12 (by decide) _) rfl ?_
    refine rq_ifB 18 rfl rfl (fun h15 => ?_) (fun h15 => ?_)
    · skip
      exact Jb (fun q => h15 q.2.1)
    · skip
      refine rq_st 19 rfl rfl ?_
      refine rq_ic 20 (nI 3) rfl (by decide) rfl ?_
      refine rq_call [_, _] _ 23 rfl rfl rfl rfl rfl (Nat.le_of_ble_eq_true rfl) (cats rfl) (rcv_n rfl) (p_X7_isIn d _ 3 (by decide) _) rfl ?_
      refine rq_ifB 26 rfl rfl (fun h23 => ?_) (fun h23 => ?_)
      · skip
        exact Jb (fun q => h23 q.2.2.1)
      · skip
        refine rq_st 28 rfl rfl ?_
        refine rq_bp 30 (nI 10) rfl (by decide) rfl ?_
        refine rq_call [_, _] _ 33 rfl rfl rfl rfl rfl (Nat.le_of_ble_eq_true rfl) (cats rfl) (rcv_n rfl) (p_X7_isIn d _ 10 (by decide) _) rfl ?_
        refine rq_ifB 36 rfl rfl (fun h33 => ?_) (fun h33 => ?_)
        · skip
          exact Jb (fun q => h33 q.2.2.2.1)
        · skip
          refine rq_st 38 rfl rfl ?_
          refine rq_ld 40 rfl rfl ?_
          refine rq_call [_, _] _ 43 rfl rfl rfl rfl rfl (Nat.le_of_ble_eq_true rfl) (cats rfl) (rcv_n rfl) (p_X7_isIn d _ 40001 (by decide) _) rfl ?_
          refine rq_ifB 46 rfl rfl (fun h43 => ?_) (fun h43 => ?_)
          · skip
            exact Jb (fun q => h43 q.2.2.2.2)
          · skip
            refine rq_ic 47 (nI 0) rfl (by decide) rfl ?_
            refine rq_st 51 rfl rfl ?_
            refine rq_puti 54 rfl hm.1 (Nat.le_of_ble_eq_true rfl) rfl rfl ?_
            have hm1 := hm.thr (nI 0)
            have hok : (okDo c p v lot day) := ⟨h6, h15, h23, h33, h43⟩
            obtain ⟨cc, hcc, rfl⟩ := h6
            refine rq_st 55 rfl rfl ?_
            refine rq_getf 58 rfl hm1.1 rfl rfl ?_
            refine rq_ift rfl (by decide) ?_
            refine rq_st 66 rfl rfl ?_
            refine rq_st 67 rfl rfl ?_
            refine rq_ic 68 (nI 1) rfl (by decide) rfl ?_
            refine rq_st 69 rfl rfl ?_
            refine rq_st 70 rfl rfl ?_
            refine rq_st 72 rfl rfl ?_
            refine rq_st 74 rfl rfl ?_
            refine rq_callq [_, _, _, _, _, _, _] _ 77 rfl rfl rfl rfl rfl (Nat.le_of_ble_eq_true rfl) (cats rfl) (rcv_s rfl hm1.1) (p_X7_note d hm1 cc hcc (n cc) (hk.1 cc hcc).2 (hk.1 cc hcc).1 _ _ _ _ _) rfl (fun v9 G1 hv9 => ?_)
            obtain ⟨hs1, ⟨h24, rfl, hm9⟩ | ⟨h24, rfl, hm9⟩⟩ := hv9
            · exact rq_iret rfl rfl rfl ⟨(sm.rf.set (mIn_0 b)).tr hs1, Or.inr ⟨hok, cc, hcc, rfl, Or.inl ⟨h24, rfl, hm9⟩⟩⟩
            · exact rq_iret rfl rfl rfl ⟨(sm.rf.set (mIn_0 b)).tr hs1, Or.inr ⟨hok, cc, hcc, rfl, Or.inr ⟨h24, rfl, hm9⟩⟩⟩
theorem p_X7_recall (d : Nat) {b : Nat} {A : Nat → Nat → Int32} {t cn lt gd : Int32} {G : ma_G} (hm : mdl b A t cn lt gd G) {n : Nat → Nat} {kn : Nat → Nat → Nat} (hk : mKn A n kn) (c lot fr to : Int32) : Cq (d + 2) 108 [.ref b, .int c, .int lot, .int fr, .int to] G (adQ b A n cn lt gd G (okRe c lot fr to) c (nI 3) lot fr to (nI 0)) := by
  refine cq_of rfl ?_
  have Jb : ¬ (okRe c lot fr to) → Rq (d + 1) M_X7_recall 47 [some (.ref b), some (.int c), some (.int lot), some (.int fr), some (.int to)] [.ref b] G (Qr (adQ b A n cn lt gd G (okRe c lot fr to) c (nI 3) lot fr to (nI 0))) := by
    intro hbad
    refine rq_ic 48 (nI 1) rfl (by decide) rfl ?_
    refine rq_puti 51 rfl hm.1 (Nat.le_of_ble_eq_true rfl) rfl rfl ?_
    have hm1 := hm.thr (nI 1)
    refine rq_st 52 rfl rfl ?_
    refine rq_getf 55 rfl hm1.1 rfl rfl ?_
    refine rq_iff 58 rfl rfl (by decide) ?_
    refine rq_ic 59 (nI 0) rfl (by decide) rfl ?_
    refine rq_st 73 rfl rfl ?_
    exact rq_iret rfl rfl rfl ⟨sm.rf.set (mIn_0 b), Or.inl ⟨hbad, rfl, hm1⟩⟩
  refine rq_st 1 rfl rfl ?_
  refine rq_st 2 rfl rfl ?_
  refine rq_ic 3 (nI 4) rfl (by decide) rfl ?_
  refine rq_call [_, _] _ 6 rfl rfl rfl rfl rfl (Nat.le_of_ble_eq_true rfl) (cats rfl) (rcv_n rfl) (p_X7_isIn d _ 4 (by decide) _) rfl ?_
  refine rq_ifB 9 rfl rfl (fun h6 => ?_) (fun h6 => ?_)
  · skip
    exact Jb (fun q => h6 q.1)
  · skip
    refine rq_st 10 rfl rfl ?_
    refine rq_bp 12 (nI 10) rfl (by decide) rfl ?_
    refine rq_call [_, _] _ 15 rfl rfl rfl rfl rfl (Nat.le_of_ble_eq_true rfl) (cats rfl) (rcv_n rfl) (p_X7_isIn d _ 10 (by decide) _) rfl ?_
    refine rq_ifB 18 rfl rfl (fun h15 => ?_) (fun h15 => ?_)
    · skip
      exact Jb (fun q => h15 q.2.1)
    · skip
      refine rq_st 19 rfl rfl ?_
      refine rq_ld 21 rfl rfl ?_
      refine rq_call [_, _] _ 24 rfl rfl rfl rfl rfl (Nat.le_of_ble_eq_true rfl) (cats rfl) (rcv_n rfl) (p_X7_isIn d _ 40001 (by decide) _) rfl ?_
      refine rq_ifB 27 rfl rfl (fun h24 => ?_) (fun h24 => ?_)
      · skip
        exact Jb (fun q => h24 q.2.2.1)
      · skip
        refine rq_st 29 rfl rfl ?_
        refine rq_ld 31 rfl rfl ?_
        refine rq_call [_, _] _ 34 rfl rfl rfl rfl rfl (Nat.le_of_ble_eq_true rfl) (cats rfl) (rcv_n rfl) (p_X7_isIn d _ 40001 (by decide) _) rfl ?_
        refine rq_ifB 37 rfl rfl (fun h34 => ?_) (fun h34 => ?_)
        · skip
          exact Jb (fun q => h34 q.2.2.2.1)
        · skip
          refine rq_st 38 rfl rfl ?_
          refine rq_st 40 rfl rfl ?_
          refine rq_cmpI 43 rfl rfl (fun h40 => ?_) (fun h40 => ?_)
          · dsimp only [cI] at h40
            exact Jb (fun q => absurd h40 (Int32.not_lt.mpr q.2.2.2.2))
          · dsimp only [cI] at h40
            refine rq_ic 44 (nI 0) rfl (by decide) rfl ?_
            refine rq_st 48 rfl rfl ?_
            refine rq_puti 51 rfl hm.1 (Nat.le_of_ble_eq_true rfl) rfl rfl ?_
            have hm1 := hm.thr (nI 0)
            have hok : (okRe c lot fr to) := ⟨h6, h15, h24, h34, Int32.not_lt.mp h40⟩
            obtain ⟨cc, hcc, rfl⟩ := h6
            refine rq_st 52 rfl rfl ?_
            refine rq_getf 55 rfl hm1.1 rfl rfl ?_
            refine rq_ift rfl (by decide) ?_
            refine rq_st 63 rfl rfl ?_
            refine rq_st 64 rfl rfl ?_
            refine rq_ic 65 (nI 3) rfl (by decide) rfl ?_
            refine rq_st 66 rfl rfl ?_
            refine rq_st 67 rfl rfl ?_
            refine rq_st 69 rfl rfl ?_
            refine rq_ic 70 (nI 0) rfl (by decide) rfl ?_
            refine rq_callq [_, _, _, _, _, _, _] _ 73 rfl rfl rfl rfl rfl (Nat.le_of_ble_eq_true rfl) (cats rfl) (rcv_s rfl hm1.1) (p_X7_note d hm1 cc hcc (n cc) (hk.1 cc hcc).2 (hk.1 cc hcc).1 _ _ _ _ _) rfl (fun v9 G1 hv9 => ?_)
            obtain ⟨hs1, ⟨h24, rfl, hm9⟩ | ⟨h24, rfl, hm9⟩⟩ := hv9
            · exact rq_iret rfl rfl rfl ⟨(sm.rf.set (mIn_0 b)).tr hs1, Or.inr ⟨hok, cc, hcc, rfl, Or.inl ⟨h24, rfl, hm9⟩⟩⟩
            · exact rq_iret rfl rfl rfl ⟨(sm.rf.set (mIn_0 b)).tr hs1, Or.inr ⟨hok, cc, hcc, rfl, Or.inr ⟨h24, rfl, hm9⟩⟩⟩
theorem p_X7_same (d : Nat) {b : Nat} {A : Nat → Nat → Int32} {t cn lt gd : Int32} {G : ma_G} (hm : mdl b A t cn lt gd G) {n : Nat → Nat} {kn : Nat → Nat → Nat} (hk : mKn A n kn) (c p q : Int32) : Cq (d + 2) 109 [.ref b, .int c, .int p, .int q] G (adQ b A n cn lt gd G (okSa c p q) c (nI 4) p q (nI 0) (nI 0)) := by
  refine cq_of rfl ?_
  have Jb : ¬ (okSa c p q) → Rq (d + 1) M_X7_same 31 [some (.ref b), some (.int c), some (.int p), some (.int q)] [.ref b] G (Qr (adQ b A n cn lt gd G (okSa c p q) c (nI 4) p q (nI 0) (nI 0))) := by
    intro hbad
    refine rq_ic 32 (nI 1) rfl (by decide) rfl ?_
    refine rq_puti 35 rfl hm.1 (Nat.le_of_ble_eq_true rfl) rfl rfl ?_
    have hm1 := hm.thr (nI 1)
    refine rq_st 36 rfl rfl ?_
    refine rq_getf 39 rfl hm1.1 rfl rfl ?_
    refine rq_iff 42 rfl rfl (by decide) ?_
    refine rq_ic 43 (nI 0) rfl (by decide) rfl ?_
    refine rq_st 56 rfl rfl ?_
    exact rq_iret rfl rfl rfl ⟨sm.rf.set (mIn_0 b), Or.inl ⟨hbad, rfl, hm1⟩⟩
  refine rq_st 1 rfl rfl ?_
  refine rq_st 2 rfl rfl ?_
  refine rq_ic 3 (nI 4) rfl (by decide) rfl ?_
  refine rq_call [_, _] _ 6 rfl rfl rfl rfl rfl (Nat.le_of_ble_eq_true rfl) (cats rfl) (rcv_n rfl) (p_X7_isIn d _ 4 (by decide) _) rfl ?_
  refine rq_ifB 9 rfl rfl (fun h6 => ?_) (fun h6 => ?_)
  · skip
    exact Jb (fun q => h6 q.1)
  · skip
    refine rq_st 10 rfl rfl ?_
    refine rq_bp 12 (nI 12) rfl (by decide) rfl ?_
    refine rq_call [_, _] _ 15 rfl rfl rfl rfl rfl (Nat.le_of_ble_eq_true rfl) (cats rfl) (rcv_n rfl) (p_X7_isIn d _ 12 (by decide) _) rfl ?_
    refine rq_ifB 18 rfl rfl (fun h15 => ?_) (fun h15 => ?_)
    · skip
      exact Jb (fun q => h15 q.2.1)
    · skip
      refine rq_st 19 rfl rfl ?_
      refine rq_bp 21 (nI 12) rfl (by decide) rfl ?_
      refine rq_call [_, _] _ 24 rfl rfl rfl rfl rfl (Nat.le_of_ble_eq_true rfl) (cats rfl) (rcv_n rfl) (p_X7_isIn d _ 12 (by decide) _) rfl ?_
      refine rq_ifB 27 rfl rfl (fun h24 => ?_) (fun h24 => ?_)
      · skip
        exact Jb (fun q => h24 q.2.2)
      · skip
        refine rq_ic 28 (nI 0) rfl (by decide) rfl ?_
        refine rq_st 32 rfl rfl ?_
        refine rq_puti 35 rfl hm.1 (Nat.le_of_ble_eq_true rfl) rfl rfl ?_
        have hm1 := hm.thr (nI 0)
        have hok : (okSa c p q) := ⟨h6, h15, h24⟩
        obtain ⟨cc, hcc, rfl⟩ := h6
        refine rq_st 36 rfl rfl ?_
        refine rq_getf 39 rfl hm1.1 rfl rfl ?_
        refine rq_ift rfl (by decide) ?_
        refine rq_st 47 rfl rfl ?_
        refine rq_st 48 rfl rfl ?_
        refine rq_ic 49 (nI 4) rfl (by decide) rfl ?_
        refine rq_st 50 rfl rfl ?_
        refine rq_st 51 rfl rfl ?_
        refine rq_ic 52 (nI 0) rfl (by decide) rfl ?_
        refine rq_ic 53 (nI 0) rfl (by decide) rfl ?_
        refine rq_callq [_, _, _, _, _, _, _] _ 56 rfl rfl rfl rfl rfl (Nat.le_of_ble_eq_true rfl) (cats rfl) (rcv_s rfl hm1.1) (p_X7_note d hm1 cc hcc (n cc) (hk.1 cc hcc).2 (hk.1 cc hcc).1 _ _ _ _ _) rfl (fun v9 G1 hv9 => ?_)
        obtain ⟨hs1, ⟨h24, rfl, hm9⟩ | ⟨h24, rfl, hm9⟩⟩ := hv9
        · exact rq_iret rfl rfl rfl ⟨(sm.rf.set (mIn_0 b)).tr hs1, Or.inr ⟨hok, cc, hcc, rfl, Or.inl ⟨h24, rfl, hm9⟩⟩⟩
        · exact rq_iret rfl rfl rfl ⟨(sm.rf.set (mIn_0 b)).tr hs1, Or.inr ⟨hok, cc, hcc, rfl, Or.inr ⟨h24, rfl, hm9⟩⟩⟩
