theorem mdl.arrE {b : Nat} {A : Nat → Nat → Int32} {t cn lt gd : Int32} {G : ma_G} (h : mdl b A t cn lt gd G) (k : Nat) (hk : k < 13) {x n : Nat} {f : Nat → Int32} (hx : b + 1 + k = x) (hn : mLen k = n) (hf : A k = f) : ma_ints G x = some (n, f) := by
  subst hf
  exact h.arr k hk hx hn
theorem mIn_0 (b : Nat) : mIn b b := ⟨by omega, by omega⟩
theorem mIn_k {b k : Nat} (h : k < 14) : mIn b (b + k) := ⟨by omega, by omega⟩
/-- the schedules -/
def mDz (A : Nat → Nat → Int32) (dz : Nat → Nat) : Prop := ∀ v, v < 3 → A 0 v = nI (dz v) ∧ 1 ≤ dz v ∧ dz v ≤ 4
/-- a dose is held against those that count -/
def ctN (A : Nat → Nat → Int32) (v k : Nat) (lt day : Int32) (z : Nat) : Prop := k = 0 ∨ (k < z ∧ lt + A 1 (4 * v + k) ≤ day)
def ctQ (b : Nat) (A : Nat → Nat → Int32) (t : Int32) (G : ma_G) (v k z : Nat) (lt gd day : Int32) (r : Option Value) (G' : ma_G) : Prop := r = none ∧ sm (mIn b) G G' ∧ ((ctN A v k lt day z ∧ mdl b A t (nI (k + 1)) day (if k + 1 = z then day else gd) G') ∨ (¬ ctN A v k lt day z ∧ mdl b A t (nI k) lt gd G'))
theorem p_X7_count (d : Nat) {b : Nat} {A : Nat → Nat → Int32} {t lt gd : Int32} {G : ma_G} {k : Nat} (hm : mdl b A t (nI k) lt gd G) {dz : Nat → Nat} (hdz : mDz A dz) (hk4 : k ≤ 4) (v : Nat) (hv : v < 3) (day : Int32) : Cq (d + 1) 126 [.ref b, .int (nI v), .int day] G (ctQ b A t G v k (dz v) lt gd day) := by
  refine cq_of rfl ?_
  have J : ∀ u : Int32, u = bI (ctN A v k lt day (dz v)) → Rq d M_X7_count 59 [some (.ref b), some (.int (nI v)), some (.int day), none] [.int u] G (Qr (ctQ b A t G v k (dz v) lt gd day)) := by
    intro u hu
    subst hu
    refine rq_st 60 rfl rfl ?_
    refine rq_st 61 rfl rfl ?_
    refine rq_ifB 64 rfl rfl (fun h61 => ?_) (fun h61 => ?_)
    · skip
      exact rq_vret rfl rfl (by first | exact ⟨rfl, sm.rf, Or.inr ⟨h61, hm⟩⟩ | exact ⟨rfl, ((sm.rf.set (mIn_0 b)).set (mIn_0 b)).set (mIn_0 b), Or.inl ⟨h61, by first | (rw [if_pos (by omega)]; exact hm2.put rfl) | (rw [if_neg (by omega)]; exact hm2.put rfl)⟩⟩)
    · skip
      refine rq_st 65 rfl rfl ?_
      refine rq_st 66 rfl rfl ?_
      refine rq_getf 69 rfl hm.1 rfl rfl ?_
      refine rq_ic 70 (nI 1) rfl (by decide) rfl ?_
      refine rq_addN 71 rfl rfl ?_
      refine rq_puti 74 rfl hm.1 (Nat.le_of_ble_eq_true rfl) rfl rfl ?_
      have hm1 := hm.put (t' := t) (cn' := nI (k + 1)) (lt' := lt) (gd' := gd) (fs := (mFs b t (nI k) lt gd).set 14 (.int (nI (k + 1)))) rfl
      refine rq_st 75 rfl rfl ?_
      refine rq_st 76 rfl rfl ?_
      refine rq_puti 79 rfl hm1.1 (Nat.le_of_ble_eq_true rfl) rfl rfl ?_
      have hm2 := hm1.put (t' := t) (cn' := nI (k + 1)) (lt' := day) (gd' := gd) (fs := (mFs b t (nI (k + 1)) lt gd).set 15 (.int day)) rfl
      refine rq_st 80 rfl rfl ?_
      refine rq_st 81 rfl rfl ?_
      refine rq_getf 84 rfl hm2.1 rfl rfl ?_
      refine rq_st 85 rfl rfl ?_
      refine rq_getf 88 rfl hm2.1 rfl rfl ?_
      refine rq_st 89 rfl rfl ?_
      refine rq_ialN 90 rfl (hm2.arr 0 (n := 3) (by decide) rfl rfl) (by omega) (by decide) rfl ?_
      rw [(hdz v hv).1]
      have hz0 := hdz v hv
      refine rq_cmpN 93 rfl rfl (by omega) (by omega) (fun h90 => ?_) (fun h90 => ?_)
      · dsimp only [cN] at h90
        refine rq_st 98 rfl rfl ?_
        refine rq_getf 101 rfl hm2.1 rfl rfl ?_
        refine rq_puti 104 rfl hm2.1 (Nat.le_of_ble_eq_true rfl) rfl rfl ?_
        exact rq_vret rfl rfl (by first | exact ⟨rfl, sm.rf, Or.inr ⟨h61, hm⟩⟩ | exact ⟨rfl, ((sm.rf.set (mIn_0 b)).set (mIn_0 b)).set (mIn_0 b), Or.inl ⟨h61, by first | (rw [if_pos (by omega)]; exact hm2.put rfl) | (rw [if_neg (by omega)]; exact hm2.put rfl)⟩⟩)
      · dsimp only [cN] at h90
        refine rq_st 94 rfl rfl ?_
        refine rq_st 101 rfl rfl ?_
        refine rq_puti 104 rfl hm2.1 (Nat.le_of_ble_eq_true rfl) rfl rfl ?_
        exact rq_vret rfl rfl (by first | exact ⟨rfl, sm.rf, Or.inr ⟨h61, hm⟩⟩ | exact ⟨rfl, ((sm.rf.set (mIn_0 b)).set (mIn_0 b)).set (mIn_0 b), Or.inl ⟨h61, by first | (rw [if_pos (by omega)]; exact hm2.put rfl) | (rw [if_neg (by omega)]; exact hm2.put rfl)⟩⟩)
  have hz0 := hdz v hv
  refine rq_st 1 rfl rfl ?_
  refine rq_getf 4 rfl hm.1 rfl rfl ?_
  refine rq_ifN 7 rfl rfl (by omega) (fun h4 => ?_) (fun h4 => ?_)
  · dsimp only [cN] at h4
    have hz : (ctN A v k lt day (dz v)) := Or.inl h4
    refine rq_ic 55 (nI 1) rfl (by decide) rfl ?_
    refine rq_st 59 rfl rfl ?_
    exact J _ (by first | exact (bI_t hz).symm | exact (bI_f hz).symm)
  · dsimp only [cN] at h4
    refine rq_st 8 rfl rfl ?_
    refine rq_getf 11 rfl hm.1 rfl rfl ?_
    refine rq_st 12 rfl rfl ?_
    refine rq_getf 15 rfl hm.1 rfl rfl ?_
    refine rq_st 16 rfl rfl ?_
    refine rq_ialN 17 rfl (hm.arr 0 (n := 3) (by decide) rfl rfl) (by omega) (by decide) rfl ?_
    rw [hz0.1]
    refine rq_cmpN 20 rfl rfl (by omega) (by omega) (fun h17 => ?_) (fun h17 => ?_)
    · dsimp only [cN] at h17
      have hz : ¬ (ctN A v k lt day (dz v)) := fun q => q.elim h4 (fun q => absurd q.1 (by omega))
      refine rq_ic 59 (nI 0) rfl (by decide) rfl ?_
      exact J _ (by first | exact (bI_t hz).symm | exact (bI_f hz).symm)
    · dsimp only [cN] at h17
      refine rq_st 21 rfl rfl ?_
      refine rq_st 22 rfl rfl ?_
      refine rq_getf 25 rfl hm.1 rfl rfl ?_
      refine rq_st 26 rfl rfl ?_
      refine rq_getf 29 rfl hm.1 rfl rfl ?_
      refine rq_ic 30 (nI 4) rfl (by decide) rfl ?_
      refine rq_st 31 rfl rfl ?_
      refine rq_mulN 32 rfl rfl ?_
      refine rq_st 33 rfl rfl ?_
      refine rq_getf 36 rfl hm.1 rfl rfl ?_
      refine rq_ic 37 (nI 4) rfl (by decide) rfl ?_
      refine rq_cmpf 40 rfl rfl (by rw [← Bool.not_eq_true, ma_cmpN (by omega) (by omega)]; show ¬ 4 ≤ k; omega) ?_
      refine rq_st 41 rfl rfl ?_
      refine rq_getf 44 rfl hm.1 rfl rfl ?_
      refine rq_st 48 rfl rfl ?_
      refine rq_addN 49 rfl rfl ?_
      refine rq_ialN 50 rfl (hm.arr 1 (n := 12) (by decide) rfl rfl) (by omega) (by decide) rfl ?_
      refine rq_st 51 rfl rfl ?_
      refine rq_cmpI 54 rfl rfl (fun h51 => ?_) (fun h51 => ?_)
      · dsimp only [cI] at h51
        have hz : ¬ (ctN A v k lt day (dz v)) := fun q => q.elim h4 (fun q => absurd h51 (Int32.not_lt.mpr q.2))
        refine rq_ic 59 (nI 0) rfl (by decide) rfl ?_
        exact J _ (by first | exact (bI_t hz).symm | exact (bI_f hz).symm)
      · dsimp only [cI] at h51
        have hz : (ctN A v k lt day (dz v)) := Or.inr ⟨by omega, Int32.not_lt.mp h51⟩
        refine rq_ic 55 (nI 1) rfl (by decide) rfl ?_
        refine rq_st 59 rfl rfl ?_
        exact J _ (by first | exact (bI_t hz).symm | exact (bI_f hz).symm)
/-- an entry is noted: entry number nc of book c -/
def ntA (A : Nat → Nat → Int32) (c nc : Nat) (k a0 a1 a2 a3 : Int32) : Nat → Nat → Int32 :=
  va_up (va_up (va_up (va_up A 3 (upd (A 3) (24 * c + nc) k)) 4 (upd (upd (upd (upd (A 4) (4 * (24 * c + nc)) a0) (4 * (24 * c + nc) + 1) a1) (4 * (24 * c + nc) + 2) a2) (4 * (24 * c + nc) + 3) a3)) 2 (upd (A 2) c (nI (nc + 1)))) 5 (upd (A 5) (5 * c) (nI (nc + 1)))
def ntQ (b : Nat) (A : Nat → Nat → Int32) (cn lt gd : Int32) (G : ma_G) (c nc : Nat) (k a0 a1 a2 a3 : Int32) (r : Option Value) (G' : ma_G) : Prop := sm (mIn b) G G' ∧ ((nc = 24 ∧ r = some (.int (nI 0)) ∧ mdl b A (nI 2) cn lt gd G') ∨ (nc < 24 ∧ r = some (.int (nI nc)) ∧ mdl b (ntA A c nc k a0 a1 a2 a3) (nI 0) cn lt gd G'))
set_option maxHeartbeats 1000000 in
theorem p_X7_note (d : Nat) {b : Nat} {A : Nat → Nat → Int32} {t cn lt gd : Int32} {G : ma_G} (hm : mdl b A t cn lt gd G) (c : Nat) (hc : c < 4) (nc : Nat) (hn : nc ≤ 24) (hc2 : A 2 c = nI nc) (k a0 a1 a2 a3 : Int32) : Cq (d + 1) 105 [.ref b, .int (nI c), .int k, .int a0, .int a1, .int a2, .int a3] G (ntQ b A cn lt gd G c nc k a0 a1 a2 a3) := by
  refine cq_of rfl ?_
  have J : ∀ z : Nat, (z = 2 ∧ nc = 24 ∨ z = 0 ∧ nc < 24) → Rq d M_X7_note 17 [some (.ref b), some (.int (nI c)), some (.int k), some (.int a0), some (.int a1), some (.int a2), some (.int a3), none] [.int (nI z), .ref b] G (Qr (ntQ b A cn lt gd G c nc k a0 a1 a2 a3)) := by
    intro z hz
    refine rq_puti 20 rfl hm.1 (Nat.le_of_ble_eq_true rfl) rfl rfl ?_
    have hm1 := hm.put (t' := nI z) (cn' := cn) (lt' := lt) (gd' := gd) (fs := (mFs b t cn lt gd).set 0 (.int (nI z))) rfl
    have hs : sm (mIn b) G (G.set b (.inr (7, (mFs b t cn lt gd).set 0 (.int (nI z))))) := sm.rf.set (mIn_0 b)
    rcases hz with ⟨rfl, h24⟩ | ⟨rfl, h24⟩
    · skip
      refine rq_st 21 rfl rfl ?_
      refine rq_getf 24 rfl hm1.1 rfl rfl ?_
      refine rq_iff 27 rfl rfl (by decide) ?_
      refine rq_ic 28 (nI 0) rfl (by decide) rfl ?_
      exact rq_iret rfl rfl rfl ⟨hs, Or.inl ⟨h24, rfl, hm1⟩⟩
    · skip
      refine rq_st 21 rfl rfl ?_
      refine rq_getf 24 rfl hm1.1 rfl rfl ?_
      refine rq_ift rfl (by decide) ?_
      refine rq_bp 31 (nI 24) rfl (by decide) rfl ?_
      refine rq_st 32 rfl rfl ?_
      refine rq_mulN 33 rfl rfl ?_
      refine rq_st 34 rfl rfl ?_
      refine rq_getf 37 rfl hm1.1 rfl rfl ?_
      refine rq_st 38 rfl rfl ?_
      refine rq_ialN 39 rfl (hm1.arr 2 (n := 4) (by decide) rfl rfl) (by omega) (by decide) rfl ?_
      rw [hc2]
      refine rq_addN 40 rfl rfl ?_
      refine rq_st 42 rfl rfl ?_
      refine rq_st 43 rfl rfl ?_
      refine rq_getf 46 rfl hm1.1 rfl rfl ?_
      refine rq_st 48 rfl rfl ?_
      refine rq_st 49 rfl rfl ?_
      refine rq_iasN 50 rfl (hm1.arr 3 (n := 96) (by decide) rfl rfl) (by omega) (by decide) rfl ?_
      have hm2 := hm1.aput 3 (x := b + 4) (n := 96) (g := (upd (A 3) (24 * c + nc) k)) (by decide) rfl rfl
      refine rq_st 51 rfl rfl ?_
      refine rq_getf 54 rfl hm2.1 rfl rfl ?_
      refine rq_ic 55 (nI 4) rfl (by decide) rfl ?_
      refine rq_st 57 rfl rfl ?_
      refine rq_mulN 58 rfl rfl ?_
      refine rq_st 59 rfl rfl ?_
      refine rq_iasN 60 rfl (hm2.arrE 4 (n := 384) (f := (A 4)) (by decide) rfl rfl rfl) (by omega) (by decide) rfl ?_
      have hm3 := hm2.aput 4 (x := b + 5) (n := 384) (g := (upd (A 4) (4 * (24 * c + nc)) a0)) (by decide) rfl rfl
      rw [show va_up (va_up A 3 _) 4 _ = va_up (va_up A 3 (upd (A 3) (24 * c + nc) k)) 4 (upd (A 4) (4 * (24 * c + nc)) a0) from rfl] at hm3
      refine rq_st 61 rfl rfl ?_
      refine rq_getf 64 rfl hm3.1 rfl rfl ?_
      refine rq_ic 65 (nI 4) rfl (by decide) rfl ?_
      refine rq_st 67 rfl rfl ?_
      refine rq_mulN 68 rfl rfl ?_
      refine rq_ic 69 (nI 1) rfl (by decide) rfl ?_
      refine rq_addN 70 rfl rfl ?_
      refine rq_st 72 rfl rfl ?_
      refine rq_iasN 73 rfl (hm3.arrE 4 (n := 384) (f := (upd (A 4) (4 * (24 * c + nc)) a0)) (by decide) rfl rfl rfl) (by omega) (by decide) rfl ?_
      have hm4 := hm3.aput 4 (x := b + 5) (n := 384) (g := (upd (upd (A 4) (4 * (24 * c + nc)) a0) (4 * (24 * c + nc) + 1) a1)) (by decide) rfl rfl
      rw [bx_uu] at hm4
      refine rq_st 74 rfl rfl ?_
      refine rq_getf 77 rfl hm4.1 rfl rfl ?_
      refine rq_ic 78 (nI 4) rfl (by decide) rfl ?_
      refine rq_st 80 rfl rfl ?_
      refine rq_mulN 81 rfl rfl ?_
      refine rq_ic 82 (nI 2) rfl (by decide) rfl ?_
      refine rq_addN 83 rfl rfl ?_
      refine rq_st 85 rfl rfl ?_
      refine rq_iasN 86 rfl (hm4.arrE 4 (n := 384) (f := (upd (upd (A 4) (4 * (24 * c + nc)) a0) (4 * (24 * c + nc) + 1) a1)) (by decide) rfl rfl rfl) (by omega) (by decide) rfl ?_
      have hm5 := hm4.aput 4 (x := b + 5) (n := 384) (g := (upd (upd (upd (A 4) (4 * (24 * c + nc)) a0) (4 * (24 * c + nc) + 1) a1) (4 * (24 * c + nc) + 2) a2)) (by decide) rfl rfl
      rw [bx_uu] at hm5
      refine rq_st 87 rfl rfl ?_
      refine rq_getf 90 rfl hm5.1 rfl rfl ?_
      refine rq_ic 91 (nI 4) rfl (by decide) rfl ?_
      refine rq_st 93 rfl rfl ?_
      refine rq_mulN 94 rfl rfl ?_
      refine rq_ic 95 (nI 3) rfl (by decide) rfl ?_
      refine rq_addN 96 rfl rfl ?_
      refine rq_st 98 rfl rfl ?_
      refine rq_iasN 99 rfl (hm5.arrE 4 (n := 384) (f := (upd (upd (upd (A 4) (4 * (24 * c + nc)) a0) (4 * (24 * c + nc) + 1) a1) (4 * (24 * c + nc) + 2) a2)) (by decide) rfl rfl rfl) (by omega) (by decide) rfl ?_
      have hm6 := hm5.aput 4 (x := b + 5) (n := 384) (g := (upd (upd (upd (upd (A 4) (4 * (24 * c + nc)) a0) (4 * (24 * c + nc) + 1) a1) (4 * (24 * c + nc) + 2) a2) (4 * (24 * c + nc) + 3) a3)) (by decide) rfl rfl
      rw [bx_uu] at hm6
      refine rq_st 100 rfl rfl ?_
      refine rq_getf 103 rfl hm6.1 rfl rfl ?_
      refine rq_st 104 rfl rfl ?_
      refine rq_st 105 rfl rfl ?_
      refine rq_ialN 106 rfl (hm6.arrE 2 (n := 4) (f := (A 2)) (by decide) rfl rfl rfl) (by omega) (by decide) rfl ?_
      rw [hc2]
      refine rq_ic 107 (nI 1) rfl (by decide) rfl ?_
      refine rq_addN 108 rfl rfl ?_
      refine rq_iasN 109 rfl (hm6.arrE 2 (n := 4) (f := (A 2)) (by decide) rfl rfl rfl) (by omega) (by decide) rfl ?_
      have hm7 := hm6.aput 2 (x := b + 3) (n := 4) (g := (upd (A 2) c (nI (nc + 1)))) (by decide) rfl rfl
      refine rq_st 110 rfl rfl ?_
      refine rq_getf 113 rfl hm7.1 rfl rfl ?_
      refine rq_ic 114 (nI 5) rfl (by decide) rfl ?_
      refine rq_st 115 rfl rfl ?_
      refine rq_mulN 116 rfl rfl ?_
      refine rq_st 117 rfl rfl ?_
      refine rq_getf 120 rfl hm7.1 rfl rfl ?_
      refine rq_st 121 rfl rfl ?_
      refine rq_ialN 122 rfl (hm7.arrE 2 (n := 4) (f := (upd (A 2) c (nI (nc + 1)))) (by decide) rfl rfl rfl) (by omega) (by decide) rfl ?_
      rw [pk_us]
      refine rq_iasN 123 rfl (hm7.arrE 5 (n := 16) (f := (A 5)) (by decide) rfl rfl rfl) (by omega) (by decide) rfl ?_
      have hm8 := hm7.aput 5 (x := b + 6) (n := 16) (g := (upd (A 5) (5 * c) (nI (nc + 1)))) (by decide) rfl rfl
      refine rq_st 124 rfl rfl ?_
      refine rq_getf 127 rfl hm8.1 rfl rfl ?_
      refine rq_st 128 rfl rfl ?_
      refine rq_ialN 129 rfl (hm8.arrE 2 (n := 4) (f := (upd (A 2) c (nI (nc + 1)))) (by decide) rfl rfl rfl) (by omega) (by decide) rfl ?_
      rw [pk_us]
      refine rq_ic 130 (nI 1) rfl (by decide) rfl ?_
      refine rq_subN 131 rfl (by omega) rfl ?_
      exact rq_iret rfl rfl rfl ⟨(((((((hs.set (mIn_k (by decide))).set (mIn_k (by decide))).set (mIn_k (by decide))).set (mIn_k (by decide))).set (mIn_k (by decide))).set (mIn_k (by decide))).set (mIn_k (by decide))), Or.inr ⟨h24, by rw [show nc + 1 - 1 = nc by omega], hm8⟩⟩
  refine rq_st 1 rfl rfl ?_
  refine rq_st 2 rfl rfl ?_
  refine rq_getf 5 rfl hm.1 rfl rfl ?_
  refine rq_st 6 rfl rfl ?_
  refine rq_ialN 7 rfl (hm.arr 2 (n := 4) (by decide) rfl rfl) (by omega) (by decide) rfl ?_
  rw [hc2]
  refine rq_bp 9 (nI 24) rfl (by decide) rfl ?_
  refine rq_cmpN 12 rfl rfl (by omega) (by omega) (fun h9 => ?_) (fun h9 => ?_)
  · dsimp only [cN] at h9
    have hc9 : nc < 24 := by omega
    refine rq_ic 17 (nI 0) rfl (by decide) rfl ?_
    exact J _ (by omega)
  · dsimp only [cN] at h9
    refine rq_ic 13 (nI 2) rfl (by decide) rfl ?_
    refine rq_st 17 rfl rfl ?_
    exact J _ (by omega)
