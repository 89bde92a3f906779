/-- a call that reads: no throw, the arrays as they were, its answer -/
def rdQ (b : Nat) (A : Nat → Nat → Int32) (cn lt gd : Int32) (G : ma_G) (Pv : Int32 → Prop) (r : Option Value) (G' : ma_G) : Prop := sm (mIn b) G G' ∧ mdl b A (nI 0) cn lt gd G' ∧ ∃ v, r = some (.int v) ∧ Pv v
def knP (A : Nat → Nat → Int32) (c d v : Int32) : Prop := (¬ (inN c 4 ∧ inN d 4) ∧ v = -1) ∨ ∃ i j, i < 4 ∧ j < 4 ∧ c = nI i ∧ d = nI j ∧ v = A 5 (4 * i + j)
def heP (A : Nat → Nat → Int32) (c b d v : Int32) : Prop := (¬ (inN c 4 ∧ inN b 4 ∧ inN d 4 ∧ ¬ c = b) ∧ v = -1) ∨ ∃ i j k, i < 4 ∧ j < 4 ∧ k < 4 ∧ ¬ i = j ∧ c = nI i ∧ b = nI j ∧ d = nI k ∧ v = A 6 (16 * i + 4 * j + k)
def enP (A : Nat → Nat → Int32) (kn : Nat → Nat → Nat) (c d i w v : Int32) : Prop := ((¬ (inN c 4 ∧ inN d 4 ∧ inN w 5) ∨ ∃ p q, p < 4 ∧ q < 4 ∧ c = nI p ∧ d = nI q ∧ ¬ inN i (kn p q)) ∧ v = -1) ∨ ∃ p q x y, p < 4 ∧ q < 4 ∧ x < kn p q ∧ y < 5 ∧ c = nI p ∧ d = nI q ∧ i = nI x ∧ w = nI y ∧ v = (if y = 0 then A 3 (24 * q + x) else A 4 (4 * (24 * q + x) + y - 1))
def stP (A : Nat → Nat → Int32) (w my : Nat → Nat) (s x v : Int32) : Prop := (¬ (inN s 3 ∧ inN x 3) ∧ v = -1) ∨ ∃ p y, p < 3 ∧ y < 3 ∧ s = nI p ∧ x = nI y ∧ v = (if y = 0 then nI (w p) else if y = 2 then nI (rdN (w p) (my p)) else if 0 < w p then A 8 p else -1)
theorem p_X7_known (d : Nat) {b : Nat} {A : Nat → Nat → Int32} {t cn lt gd : Int32} {G : ma_G} (hm : mdl b A t cn lt gd G) (c e : Int32) : Cq (d + 2) 116 [.ref b, .int c, .int e] G (rdQ b A cn lt gd G (knP A c e)) := by
  refine cq_of rfl ?_
  refine rq_st 1 rfl rfl ?_
  refine rq_ic 2 (nI 0) rfl (by decide) rfl ?_
  refine rq_puti 5 rfl hm.1 (Nat.le_of_ble_eq_true rfl) rfl rfl ?_
  have hm1 := hm.thr (nI 0)
  refine rq_st 6 rfl rfl ?_
  refine rq_ic 7 (nI 4) rfl (by decide) rfl ?_
  refine rq_call [_, _] _ 10 rfl rfl rfl rfl rfl (Nat.le_of_ble_eq_true rfl) (cats rfl) (rcv_n rfl) (p_X7_isIn d _ 4 (by decide) _) rfl ?_
  refine rq_ifB 13 rfl rfl (fun h10 => ?_) (fun h10 => ?_)
  · skip
    have hz : ¬ (inN c 4 ∧ inN e 4) := fun q => h10 q.1
    refine rq_ic 59 (-1) rfl (by decide) rfl ?_
    exact rq_iret rfl rfl rfl (by first | exact ⟨sm.rf.set (mIn_0 b), hm1, _, rfl, Or.inl ⟨hz, rfl⟩⟩ | exact ⟨sm.rf.set (mIn_0 b), hm1, _, rfl, Or.inr ⟨i, j, hi, hj, rfl, rfl, rfl⟩⟩)
  · skip
    refine rq_st 14 rfl rfl ?_
    refine rq_ic 15 (nI 4) rfl (by decide) rfl ?_
    refine rq_call [_, _] _ 18 rfl rfl rfl rfl rfl (Nat.le_of_ble_eq_true rfl) (cats rfl) (rcv_n rfl) (p_X7_isIn d _ 4 (by decide) _) rfl ?_
    refine rq_ifB 21 rfl rfl (fun h18 => ?_) (fun h18 => ?_)
    · skip
      have hz : ¬ (inN c 4 ∧ inN e 4) := fun q => h18 q.2
      refine rq_ic 59 (-1) rfl (by decide) rfl ?_
      exact rq_iret rfl rfl rfl (by first | exact ⟨sm.rf.set (mIn_0 b), hm1, _, rfl, Or.inl ⟨hz, rfl⟩⟩ | exact ⟨sm.rf.set (mIn_0 b), hm1, _, rfl, Or.inr ⟨i, j, hi, hj, rfl, rfl, rfl⟩⟩)
    · skip
      obtain ⟨i, hi, rfl⟩ := h10
      obtain ⟨j, hj, rfl⟩ := h18
      refine rq_st 22 rfl rfl ?_
      refine rq_getf 25 rfl hm1.1 rfl rfl ?_
      refine rq_ic 26 (nI 4) rfl (by decide) rfl ?_
      refine rq_st 27 rfl rfl ?_
      refine rq_ic 28 (nI 4) rfl (by decide) rfl ?_
      refine rq_call [_, _] _ 31 rfl rfl rfl rfl rfl (Nat.le_of_ble_eq_true rfl) (cats rfl) (rcv_n rfl) (p_X7_isIn d _ 4 (by decide) _) rfl ?_
      refine rq_iff 34 rfl rfl (by rw [← Bool.not_eq_true, (bI_if _).1]; exact fun q => q (⟨i, hi, rfl⟩)) ?_
      refine rq_st 35 rfl rfl ?_
      refine rq_st 39 rfl rfl ?_
      refine rq_mulN 40 rfl rfl ?_
      refine rq_st 41 rfl rfl ?_
      refine rq_ic 42 (nI 4) rfl (by decide) rfl ?_
      refine rq_call [_, _] _ 45 rfl rfl rfl rfl rfl (Nat.le_of_ble_eq_true rfl) (cats rfl) (rcv_n rfl) (p_X7_isIn d _ 4 (by decide) _) rfl ?_
      refine rq_iff 48 rfl rfl (by rw [← Bool.not_eq_true, (bI_if _).1]; exact fun q => q (⟨j, hj, rfl⟩)) ?_
      refine rq_st 49 rfl rfl ?_
      refine rq_st 53 rfl rfl ?_
      refine rq_addN 54 rfl rfl ?_
      refine rq_ialN 55 rfl (hm1.arr 5 (n := 16) (by decide) rfl rfl) (by omega) (by decide) rfl ?_
      refine rq_st 59 rfl rfl ?_
      exact rq_iret rfl rfl rfl (by first | exact ⟨sm.rf.set (mIn_0 b), hm1, _, rfl, Or.inl ⟨hz, rfl⟩⟩ | exact ⟨sm.rf.set (mIn_0 b), hm1, _, rfl, Or.inr ⟨i, j, hi, hj, rfl, rfl, rfl⟩⟩)
theorem p_X7_heard (d : Nat) {b : Nat} {A : Nat → Nat → Int32} {t cn lt gd : Int32} {G : ma_G} (hm : mdl b A t cn lt gd G) (c f e : Int32) : Cq (d + 2) 117 [.ref b, .int c, .int f, .int e] G (rdQ b A cn lt gd G (heP A c f e)) := by
  refine cq_of rfl ?_
  refine rq_st 1 rfl rfl ?_
  refine rq_ic 2 (nI 0) rfl (by decide) rfl ?_
  refine rq_puti 5 rfl hm.1 (Nat.le_of_ble_eq_true rfl) rfl rfl ?_
  have hm1 := hm.thr (nI 0)
  refine rq_st 6 rfl rfl ?_
  refine rq_ic 7 (nI 4) rfl (by decide) rfl ?_
  refine rq_call [_, _] _ 10 rfl rfl rfl rfl rfl (Nat.le_of_ble_eq_true rfl) (cats rfl) (rcv_n rfl) (p_X7_isIn d _ 4 (by decide) _) rfl ?_
  refine rq_ifB 13 rfl rfl (fun h10 => ?_) (fun h10 => ?_)
  · skip
    have hz : ¬ (inN c 4 ∧ inN f 4 ∧ inN e 4 ∧ ¬ c = f) := fun q => h10 q.1
    refine rq_ic 35 (-1) rfl (by decide) rfl ?_
    exact rq_iret rfl rfl rfl ⟨sm.rf.set (mIn_0 b), hm1, _, rfl, Or.inl ⟨hz, rfl⟩⟩
  · skip
    refine rq_st 14 rfl rfl ?_
    refine rq_ic 15 (nI 4) rfl (by decide) rfl ?_
    refine rq_call [_, _] _ 18 rfl rfl rfl rfl rfl (Nat.le_of_ble_eq_true rfl) (cats rfl) (rcv_n rfl) (p_X7_isIn d _ 4 (by decide) _) rfl ?_
    refine rq_ifB 21 rfl rfl (fun h18 => ?_) (fun h18 => ?_)
    · skip
      have hz : ¬ (inN c 4 ∧ inN f 4 ∧ inN e 4 ∧ ¬ c = f) := fun q => h18 q.2.1
      refine rq_ic 35 (-1) rfl (by decide) rfl ?_
      exact rq_iret rfl rfl rfl ⟨sm.rf.set (mIn_0 b), hm1, _, rfl, Or.inl ⟨hz, rfl⟩⟩
    · skip
      refine rq_st 22 rfl rfl ?_
      refine rq_ic 23 (nI 4) rfl (by decide) rfl ?_
      refine rq_call [_, _] _ 26 rfl rfl rfl rfl rfl (Nat.le_of_ble_eq_true rfl) (cats rfl) (rcv_n rfl) (p_X7_isIn d _ 4 (by decide) _) rfl ?_
      refine rq_ifB 29 rfl rfl (fun h26 => ?_) (fun h26 => ?_)
      · skip
        have hz : ¬ (inN c 4 ∧ inN f 4 ∧ inN e 4 ∧ ¬ c = f) := fun q => h26 q.2.2.1
        refine rq_ic 35 (-1) rfl (by decide) rfl ?_
        exact rq_iret rfl rfl rfl ⟨sm.rf.set (mIn_0 b), hm1, _, rfl, Or.inl ⟨hz, rfl⟩⟩
      · skip
        refine rq_st 30 rfl rfl ?_
        refine rq_st 31 rfl rfl ?_
        refine rq_cmpI 34 rfl rfl (fun h31 => ?_) (fun h31 => ?_)
        · dsimp only [cI] at h31
          obtain ⟨i, hi, rfl⟩ := h10
          obtain ⟨j, hj, rfl⟩ := h18
          obtain ⟨k, hk3, rfl⟩ := h26
          have hij : ¬ i = j := fun q => h31 (by rw [q])
          refine rq_st 37 rfl rfl ?_
          refine rq_getf 40 rfl hm1.1 rfl rfl ?_
          refine rq_bp 42 (nI 16) rfl (by decide) rfl ?_
          refine rq_st 43 rfl rfl ?_
          refine rq_mulN 44 rfl rfl ?_
          refine rq_ic 45 (nI 4) rfl (by decide) rfl ?_
          refine rq_st 46 rfl rfl ?_
          refine rq_mulN 47 rfl rfl ?_
          refine rq_addN 48 rfl rfl ?_
          refine rq_st 49 rfl rfl ?_
          refine rq_addN 50 rfl rfl ?_
          refine rq_ialN 51 rfl (hm1.arr 6 (n := 64) (by decide) rfl rfl) (by omega) (by decide) rfl ?_
          exact rq_iret rfl rfl rfl ⟨sm.rf.set (mIn_0 b), hm1, _, rfl, Or.inr ⟨i, j, k, hi, hj, hk3, hij, rfl, rfl, rfl, rfl⟩⟩
        · dsimp only [cI] at h31
          have hz : ¬ (inN c 4 ∧ inN f 4 ∧ inN e 4 ∧ ¬ c = f) := fun q => h31 q.2.2.2
          refine rq_ic 35 (-1) rfl (by decide) rfl ?_
          exact rq_iret rfl rfl rfl ⟨sm.rf.set (mIn_0 b), hm1, _, rfl, Or.inl ⟨hz, rfl⟩⟩
theorem p_X7_entry (d : Nat) {b : Nat} {A : Nat → Nat → Int32} {t cn lt gd : Int32} {G : ma_G} (hm : mdl b A t cn lt gd G) {n : Nat → Nat} {kn : Nat → Nat → Nat} (hk : mKn A n kn) (c e i w : Int32) : Cq (d + 2) 118 [.ref b, .int c, .int e, .int i, .int w] G (rdQ b A cn lt gd G (enP A kn c e i w)) := by
  refine cq_of rfl ?_
  refine rq_st 1 rfl rfl ?_
  refine rq_ic 2 (nI 0) rfl (by decide) rfl ?_
  refine rq_puti 5 rfl hm.1 (Nat.le_of_ble_eq_true rfl) rfl rfl ?_
  have hm1 := hm.thr (nI 0)
  refine rq_st 6 rfl rfl ?_
  refine rq_ic 7 (nI 4) rfl (by decide) rfl ?_
  refine rq_call [_, _] _ 10 rfl rfl rfl rfl rfl (Nat.le_of_ble_eq_true rfl) (cats rfl) (rcv_n rfl) (p_X7_isIn d _ 4 (by decide) _) rfl ?_
  refine rq_ifB 13 rfl rfl (fun h10 => ?_) (fun h10 => ?_)
  · skip
    have hz : ¬ (inN c 4 ∧ inN e 4 ∧ inN w 5) := fun q => h10 q.1
    refine rq_ic 31 (-1) rfl (by decide) rfl ?_
    exact rq_iret rfl rfl rfl ⟨sm.rf.set (mIn_0 b), hm1, _, rfl, Or.inl ⟨Or.inl hz, rfl⟩⟩
  · skip
    refine rq_st 14 rfl rfl ?_
    refine rq_ic 15 (nI 4) rfl (by decide) rfl ?_
    refine rq_call [_, _] _ 18 rfl rfl rfl rfl rfl (Nat.le_of_ble_eq_true rfl) (cats rfl) (rcv_n rfl) (p_X7_isIn d _ 4 (by decide) _) rfl ?_
    refine rq_ifB 21 rfl rfl (fun h18 => ?_) (fun h18 => ?_)
    · skip
      have hz : ¬ (inN c 4 ∧ inN e 4 ∧ inN w 5) := fun q => h18 q.2.1
      refine rq_ic 31 (-1) rfl (by decide) rfl ?_
      exact rq_iret rfl rfl rfl ⟨sm.rf.set (mIn_0 b), hm1, _, rfl, Or.inl ⟨Or.inl hz, rfl⟩⟩
    · skip
      refine rq_st 23 rfl rfl ?_
      refine rq_ic 24 (nI 5) rfl (by decide) rfl ?_
      refine rq_call [_, _] _ 27 rfl rfl rfl rfl rfl (Nat.le_of_ble_eq_true rfl) (cats rfl) (rcv_n rfl) (p_X7_isIn d _ 5 (by decide) _) rfl ?_
      refine rq_ifnB 30 rfl rfl (fun h27 => ?_) (fun h27 => ?_)
      · skip
        obtain ⟨p, hp, rfl⟩ := h10
        obtain ⟨q, hq, rfl⟩ := h18
        obtain ⟨y, hy, rfl⟩ := h27
        refine rq_st 33 rfl rfl ?_
        refine rq_st 34 rfl rfl ?_
        refine rq_getf 37 rfl hm1.1 rfl rfl ?_
        refine rq_ic 38 (nI 4) rfl (by decide) rfl ?_
        refine rq_st 39 rfl rfl ?_
        refine rq_mulN 40 rfl rfl ?_
        refine rq_st 41 rfl rfl ?_
        refine rq_addN 42 rfl rfl ?_
        refine rq_ialN 43 rfl (hm1.arr 5 (n := 16) (by decide) rfl rfl) (by omega) (by decide) rfl ?_
        rw [(hk.2 p q hp hq).1]
        have hle := hk.le hp hq
        refine rq_call [_, _] _ 46 rfl rfl rfl rfl rfl (Nat.le_of_ble_eq_true rfl) (cats rfl) (rcv_n rfl) (p_X7_isIn d _ _ (by omega) _) rfl ?_
        refine rq_ifnB 49 rfl rfl (fun h46 => ?_) (fun h46 => ?_)
        · skip
          obtain ⟨x, hx, rfl⟩ := h46
          refine rq_bp 53 (nI 24) rfl (by decide) rfl ?_
          refine rq_st 54 rfl rfl ?_
          refine rq_mulN 55 rfl rfl ?_
          refine rq_st 56 rfl rfl ?_
          refine rq_addN 57 rfl rfl ?_
          refine rq_st 59 rfl rfl ?_
          refine rq_st 61 rfl rfl ?_
          refine rq_ifN 64 rfl rfl (by omega) (fun h61 => ?_) (fun h61 => ?_)
          · dsimp only [cN] at h61
            refine rq_st 75 rfl rfl ?_
            refine rq_getf 78 rfl hm1.1 rfl rfl ?_
            refine rq_ic 79 (nI 4) rfl (by decide) rfl ?_
            refine rq_st 81 rfl rfl ?_
            refine rq_mulN 82 rfl rfl ?_
            refine rq_st 84 rfl rfl ?_
            refine rq_addN 85 rfl rfl ?_
            refine rq_ic 86 (nI 1) rfl (by decide) rfl ?_
            refine rq_subN 87 rfl (by omega) rfl ?_
            refine rq_ialN 88 rfl (hm1.arr 4 (n := 384) (by decide) rfl rfl) (by omega) (by decide) rfl ?_
            exact rq_iret rfl rfl rfl (by first | exact ⟨sm.rf.set (mIn_0 b), hm1, _, rfl, Or.inr ⟨p, q, x, y, hp, hq, hx, hy, rfl, rfl, rfl, rfl, (if_pos (by omega)).symm⟩⟩ | exact ⟨sm.rf.set (mIn_0 b), hm1, _, rfl, Or.inr ⟨p, q, x, y, hp, hq, hx, hy, rfl, rfl, rfl, rfl, (if_neg (by omega)).symm⟩⟩)
          · dsimp only [cN] at h61
            refine rq_st 65 rfl rfl ?_
            refine rq_getf 68 rfl hm1.1 rfl rfl ?_
            refine rq_st 70 rfl rfl ?_
            refine rq_ialN 71 rfl (hm1.arr 3 (n := 96) (by decide) rfl rfl) (by omega) (by decide) rfl ?_
            refine rq_st 88 rfl rfl ?_
            exact rq_iret rfl rfl rfl (by first | exact ⟨sm.rf.set (mIn_0 b), hm1, _, rfl, Or.inr ⟨p, q, x, y, hp, hq, hx, hy, rfl, rfl, rfl, rfl, (if_pos (by omega)).symm⟩⟩ | exact ⟨sm.rf.set (mIn_0 b), hm1, _, rfl, Or.inr ⟨p, q, x, y, hp, hq, hx, hy, rfl, rfl, rfl, rfl, (if_neg (by omega)).symm⟩⟩)
        · skip
          refine rq_ic 50 (-1) rfl (by decide) rfl ?_
          exact rq_iret rfl rfl rfl ⟨sm.rf.set (mIn_0 b), hm1, _, rfl, Or.inl ⟨Or.inr ⟨p, q, hp, hq, rfl, rfl, h46⟩, rfl⟩⟩
      · skip
        have hz : ¬ (inN c 4 ∧ inN e 4 ∧ inN w 5) := fun q => h27 q.2.2
        refine rq_ic 31 (-1) rfl (by decide) rfl ?_
        exact rq_iret rfl rfl rfl ⟨sm.rf.set (mIn_0 b), hm1, _, rfl, Or.inl ⟨Or.inl hz, rfl⟩⟩
theorem p_X7_stick (d : Nat) {b : Nat} {A : Nat → Nat → Int32} {t cn lt gd : Int32} {G : ma_G} (hm : mdl b A t cn lt gd G) {w my : Nat → Nat} (hst : mSt A w my) (s x : Int32) : Cq (d + 2) 115 [.ref b, .int s, .int x] G (rdQ b A cn lt gd G (stP A w my s x)) := by
  refine cq_of rfl ?_
  refine rq_st 1 rfl rfl ?_
  refine rq_ic 2 (nI 0) rfl (by decide) rfl ?_
  refine rq_puti 5 rfl hm.1 (Nat.le_of_ble_eq_true rfl) rfl rfl ?_
  have hm1 := hm.thr (nI 0)
  refine rq_st 6 rfl rfl ?_
  refine rq_ic 7 (nI 3) rfl (by decide) rfl ?_
  refine rq_call [_, _] _ 10 rfl rfl rfl rfl rfl (Nat.le_of_ble_eq_true rfl) (cats rfl) (rcv_n rfl) (p_X7_isIn d _ 3 (by decide) _) rfl ?_
  refine rq_ifB 13 rfl rfl (fun h10 => ?_) (fun h10 => ?_)
  · skip
    have hz : ¬ (inN s 3 ∧ inN x 3) := fun q => h10 q.1
    refine rq_ic 22 (-1) rfl (by decide) rfl ?_
    exact rq_iret rfl rfl rfl ⟨sm.rf.set (mIn_0 b), hm1, _, rfl, Or.inl ⟨hz, rfl⟩⟩
  · skip
    refine rq_st 14 rfl rfl ?_
    refine rq_ic 15 (nI 3) rfl (by decide) rfl ?_
    refine rq_call [_, _] _ 18 rfl rfl rfl rfl rfl (Nat.le_of_ble_eq_true rfl) (cats rfl) (rcv_n rfl) (p_X7_isIn d _ 3 (by decide) _) rfl ?_
    refine rq_ifnB 21 rfl rfl (fun h18 => ?_) (fun h18 => ?_)
    · skip
      obtain ⟨p, hp, rfl⟩ := h10
      obtain ⟨y, hy, rfl⟩ := h18
      have hs := hst p hp
      refine rq_st 24 rfl rfl ?_
      refine rq_ifN 27 rfl rfl (by omega) (fun h24 => ?_) (fun h24 => ?_)
      · dsimp only [cN] at h24
        refine rq_st 37 rfl rfl ?_
        refine rq_ic 38 (nI 2) rfl (by decide) rfl ?_
        refine rq_cmpN 41 rfl rfl (by omega) (by omega) (fun h38 => ?_) (fun h38 => ?_)
        · dsimp only [cN] at h38
          refine rq_st 50 rfl rfl ?_
          refine rq_getf 53 rfl hm1.1 rfl rfl ?_
          refine rq_st 54 rfl rfl ?_
          refine rq_ialN 55 rfl (hm1.arr 7 (n := 3) (by decide) rfl rfl) (by omega) (by decide) rfl ?_
          rw [hs.1]
          refine rq_ifN 58 rfl rfl (by omega) (fun h55 => ?_) (fun h55 => ?_)
          · dsimp only [cN] at h55
            refine rq_ic 68 (-1) rfl (by decide) rfl ?_
            exact rq_iret rfl rfl rfl (by first | exact ⟨sm.rf.set (mIn_0 b), hm1, _, rfl, Or.inr ⟨p, y, hp, hy, rfl, rfl, by rw [if_pos (by omega)]⟩⟩ | exact ⟨sm.rf.set (mIn_0 b), hm1, _, rfl, Or.inr ⟨p, y, hp, hy, rfl, rfl, by rw [if_neg (by omega), if_pos (by omega)]⟩⟩ | exact ⟨sm.rf.set (mIn_0 b), hm1, _, rfl, Or.inr ⟨p, y, hp, hy, rfl, rfl, by rw [if_neg (by omega), if_neg (by omega), if_pos (by omega)]⟩⟩ | exact ⟨sm.rf.set (mIn_0 b), hm1, _, rfl, Or.inr ⟨p, y, hp, hy, rfl, rfl, by rw [if_neg (by omega), if_neg (by omega), if_neg (by omega)]⟩⟩)
          · dsimp only [cN] at h55
            refine rq_st 59 rfl rfl ?_
            refine rq_getf 62 rfl hm1.1 rfl rfl ?_
            refine rq_st 63 rfl rfl ?_
            refine rq_ialN 64 rfl (hm1.arr 8 (n := 3) (by decide) rfl rfl) (by omega) (by decide) rfl ?_
            refine rq_st 68 rfl rfl ?_
            exact rq_iret rfl rfl rfl (by first | exact ⟨sm.rf.set (mIn_0 b), hm1, _, rfl, Or.inr ⟨p, y, hp, hy, rfl, rfl, by rw [if_pos (by omega)]⟩⟩ | exact ⟨sm.rf.set (mIn_0 b), hm1, _, rfl, Or.inr ⟨p, y, hp, hy, rfl, rfl, by rw [if_neg (by omega), if_pos (by omega)]⟩⟩ | exact ⟨sm.rf.set (mIn_0 b), hm1, _, rfl, Or.inr ⟨p, y, hp, hy, rfl, rfl, by rw [if_neg (by omega), if_neg (by omega), if_pos (by omega)]⟩⟩ | exact ⟨sm.rf.set (mIn_0 b), hm1, _, rfl, Or.inr ⟨p, y, hp, hy, rfl, rfl, by rw [if_neg (by omega), if_neg (by omega), if_neg (by omega)]⟩⟩)
        · dsimp only [cN] at h38
          refine rq_st 42 rfl rfl ?_
          refine rq_st 43 rfl rfl ?_
          refine rq_call [_, _] _ 46 rfl rfl rfl rfl rfl (Nat.le_of_ble_eq_true rfl) (cats rfl) (rcv_s rfl hm1.1) (p_X7_readable d hm1 hst p hp) rfl ?_
          refine rq_st 68 rfl rfl ?_
          exact rq_iret rfl rfl rfl (by first | exact ⟨sm.rf.set (mIn_0 b), hm1, _, rfl, Or.inr ⟨p, y, hp, hy, rfl, rfl, by rw [if_pos (by omega)]⟩⟩ | exact ⟨sm.rf.set (mIn_0 b), hm1, _, rfl, Or.inr ⟨p, y, hp, hy, rfl, rfl, by rw [if_neg (by omega), if_pos (by omega)]⟩⟩ | exact ⟨sm.rf.set (mIn_0 b), hm1, _, rfl, Or.inr ⟨p, y, hp, hy, rfl, rfl, by rw [if_neg (by omega), if_neg (by omega), if_pos (by omega)]⟩⟩ | exact ⟨sm.rf.set (mIn_0 b), hm1, _, rfl, Or.inr ⟨p, y, hp, hy, rfl, rfl, by rw [if_neg (by omega), if_neg (by omega), if_neg (by omega)]⟩⟩)
      · dsimp only [cN] at h24
        refine rq_st 28 rfl rfl ?_
        refine rq_getf 31 rfl hm1.1 rfl rfl ?_
        refine rq_st 32 rfl rfl ?_
        refine rq_ialN 33 rfl (hm1.arr 7 (n := 3) (by decide) rfl rfl) (by omega) (by decide) rfl ?_
        rw [hs.1]
        refine rq_st 68 rfl rfl ?_
        exact rq_iret rfl rfl rfl (by first | exact ⟨sm.rf.set (mIn_0 b), hm1, _, rfl, Or.inr ⟨p, y, hp, hy, rfl, rfl, by rw [if_pos (by omega)]⟩⟩ | exact ⟨sm.rf.set (mIn_0 b), hm1, _, rfl, Or.inr ⟨p, y, hp, hy, rfl, rfl, by rw [if_neg (by omega), if_pos (by omega)]⟩⟩ | exact ⟨sm.rf.set (mIn_0 b), hm1, _, rfl, Or.inr ⟨p, y, hp, hy, rfl, rfl, by rw [if_neg (by omega), if_neg (by omega), if_pos (by omega)]⟩⟩ | exact ⟨sm.rf.set (mIn_0 b), hm1, _, rfl, Or.inr ⟨p, y, hp, hy, rfl, rfl, by rw [if_neg (by omega), if_neg (by omega), if_neg (by omega)]⟩⟩)
    · skip
      have hz : ¬ (inN s 3 ∧ inN x 3) := fun q => h18 q.2
      refine rq_ic 22 (-1) rfl (by decide) rfl ?_
      exact rq_iret rfl rfl rfl ⟨sm.rf.set (mIn_0 b), hm1, _, rfl, Or.inl ⟨hz, rfl⟩⟩
def teQ (b : Nat) (A : Nat → Nat → Int32) (w : Nat → Nat) (cn lt gd : Int32) (G : ma_G) (s x : Int32) (r : Option Value) (G' : ma_G) : Prop := sm (mIn b) G G' ∧ ((¬ (inN s 3 ∧ ¬ x < 0) ∧ r = some (.int (nI 0)) ∧ mdl b A (nI 1) cn lt gd G') ∨ ∃ p m, p < 3 ∧ m < 2 ^ 31 ∧ s = nI p ∧ x = nI m ∧ r = some (.int (nI (if m < w p then m else w p))) ∧ mdl b (va_up A 7 (upd (A 7) p (nI (if m < w p then m else w p)))) (nI 0) cn lt gd G')
theorem p_X7_tear (d : Nat) {b : Nat} {A : Nat → Nat → Int32} {t cn lt gd : Int32} {G : ma_G} (hm : mdl b A t cn lt gd G) {w my : Nat → Nat} (hst : mSt A w my) (s x : Int32) : Cq (d + 2) 112 [.ref b, .int s, .int x] G (teQ b A w cn lt gd G s x) := by
  refine cq_of rfl ?_
  have Jb : ¬ (inN s 3 ∧ ¬ x < 0) → Rq (d + 1) M_X7_tear 17 [some (.ref b), some (.int s), some (.int x)] [.ref b] G (Qr (teQ b A w cn lt gd G s x)) := by
    intro hbad
    refine rq_ic 18 (nI 1) rfl (by decide) rfl ?_
    refine rq_puti 21 rfl hm.1 (Nat.le_of_ble_eq_true rfl) rfl rfl ?_
    have hm1 := hm.thr (nI 1)
    refine rq_st 22 rfl rfl ?_
    refine rq_getf 25 rfl hm1.1 rfl rfl ?_
    refine rq_iff 28 rfl rfl (by decide) ?_
    refine rq_ic 29 (nI 0) rfl (by decide) rfl ?_
    exact rq_iret rfl rfl rfl ⟨sm.rf.set (mIn_0 b), Or.inl ⟨hbad, rfl, hm1⟩⟩
  refine rq_st 1 rfl rfl ?_
  refine rq_st 2 rfl rfl ?_
  refine rq_ic 3 (nI 3) rfl (by decide) rfl ?_
  refine rq_call [_, _] _ 6 rfl rfl rfl rfl rfl (Nat.le_of_ble_eq_true rfl) (cats rfl) (rcv_n rfl) (p_X7_isIn d _ 3 (by decide) _) rfl ?_
  refine rq_ifB 9 rfl rfl (fun h6 => ?_) (fun h6 => ?_)
  · skip
    exact Jb (fun q => h6 q.1)
  · skip
    refine rq_st 10 rfl rfl ?_
    refine rq_ifI 13 rfl rfl (fun h10 => ?_) (fun h10 => ?_)
    · dsimp only [cI] at h10
      exact Jb (fun q => q.2 h10)
    · dsimp only [cI] at h10
      refine rq_ic 14 (nI 0) rfl (by decide) rfl ?_
      refine rq_st 18 rfl rfl ?_
      refine rq_puti 21 rfl hm.1 (Nat.le_of_ble_eq_true rfl) rfl rfl ?_
      obtain ⟨p, hp, rfl⟩ := h6
      obtain ⟨m, hm31, rfl⟩ := nI_of h10
      have hm1 := hm.thr (nI 0)
      have hs := hst p hp
      have J : ∀ z : Nat, z = (if m < w p then m else w p) → Rq (d + 1) M_X7_tear 55 [some (.ref b), some (.int (nI p)), some (.int (nI m))] [.int (nI z), .int (nI p), .ref (b + 8)] (G.set b (.inr (7, (mFs b t cn lt gd).set 0 (.int (nI 0))))) (Qr (teQ b A w cn lt gd G (nI p) (nI m))) := by
        intro z hz
        refine rq_iasN 56 rfl (hm1.arr 7 (n := 3) (by decide) rfl rfl) (by omega) (by decide) rfl ?_
        have hm2 := hm1.aput 7 (x := b + 8) (n := 3) (g := upd (A 7) p (nI z)) (by decide) rfl rfl
        refine rq_st 57 rfl rfl ?_
        refine rq_getf 60 rfl hm2.1 rfl rfl ?_
        refine rq_st 61 rfl rfl ?_
        refine rq_ialN 62 rfl (hm2.arrE 7 (n := 3) (f := upd (A 7) p (nI z)) (by decide) rfl rfl rfl) (by omega) (by decide) rfl ?_
        rw [pk_us]
        exact rq_iret rfl rfl rfl ⟨(sm.rf.set (mIn_0 b)).set (mIn_k (by decide)), Or.inr ⟨p, m, hp, hm31, rfl, rfl, by rw [hz], by rw [← hz]; exact hm2⟩⟩
      refine rq_st 22 rfl rfl ?_
      refine rq_getf 25 rfl hm1.1 rfl rfl ?_
      refine rq_ift rfl (by decide) ?_
      refine rq_st 31 rfl rfl ?_
      refine rq_getf 34 rfl hm1.1 rfl rfl ?_
      refine rq_st 35 rfl rfl ?_
      refine rq_st 36 rfl rfl ?_
      refine rq_st 37 rfl rfl ?_
      refine rq_getf 40 rfl hm1.1 rfl rfl ?_
      refine rq_st 41 rfl rfl ?_
      refine rq_ialN 42 rfl (hm1.arr 7 (n := 3) (by decide) rfl rfl) (by omega) (by decide) rfl ?_
      rw [hs.1]
      refine rq_cmpN 45 rfl rfl (by omega) (by omega) (fun h42 => ?_) (fun h42 => ?_)
      · dsimp only [cN] at h42
        refine rq_st 50 rfl rfl ?_
        refine rq_getf 53 rfl hm1.1 rfl rfl ?_
        refine rq_st 54 rfl rfl ?_
        refine rq_ialN 55 rfl (hm1.arr 7 (n := 3) (by decide) rfl rfl) (by omega) (by decide) rfl ?_
        rw [hs.1]
        exact J _ (by first | rw [if_pos (by omega)] | rw [if_neg (by omega)])
      · dsimp only [cN] at h42
        refine rq_st 46 rfl rfl ?_
        refine rq_st 55 rfl rfl ?_
        exact J _ (by first | rw [if_pos (by omega)] | rw [if_neg (by omega)])
