set_option maxHeartbeats 1000000 in
theorem p_X7_init (d : Nat) {G : ma_G} {a : Nat} (ho : ma_obj G a 7 = some [.int 0, .null, .null, .null, .null, .null, .null, .null, .null, .null, .null, .null, .null, .null, .int 0, .int 0, .int 0]) (hl : G.length = a + 1) : Ck (d + 1) 100 [.ref a] G 13 900 (fun r G2 => r = none ∧ G2.length = a + 14 ∧ gm (fun x => x = a) G G2 ∧ ∃ g, (∀ u, u < 3 → g u = nI 1) ∧ mdl a (va_up (fun _ _ => 0) 0 g) 0 0 0 0 G2) := by
  refine ck_of rfl ?_
  have loop : ∀ (m v : Nat) (G2 : ma_G) (g : Nat → Int32), v + m = 3 → mdl a (va_up (fun _ _ => 0) 0 g) 0 0 0 0 G2 → (∀ u, u < v → g u = nI 1) → G2.length = a + 14 → gm (fun x => x = a) G G2 → Rq d M_X7_init 107 [some (.ref a), some (.int (nI v))] [] G2 (Qk 0 0 (fun r G2 => r = none ∧ G2.length = a + 14 ∧ gm (fun x => x = a) G G2 ∧ ∃ g, (∀ u, u < 3 → g u = nI 1) ∧ mdl a (va_up (fun _ _ => 0) 0 g) 0 0 0 0 G2)) := by
    intro m
    induction m with
    | zero =>
      intro v G2 g hv hm2 hgv hl2 hg2
      refine rq_st 108 rfl rfl ?_
      refine rq_ic 109 (nI 3) rfl (by decide) rfl ?_
      refine rq_cmpt rfl ((ma_cmpN (by omega) (by omega)).mpr (by show 3 ≤ v; omega)) ?_
      obtain rfl : v = 3 := by omega
      exact rk_vret rfl rfl ⟨rfl, hl2, hg2, g, hgv, hm2⟩
    | succ m ih =>
      intro v G2 g hv hm2 hgv hl2 hg2
      refine rq_st 108 rfl rfl ?_
      refine rq_ic 109 (nI 3) rfl (by decide) rfl ?_
      refine rq_cmpf 112 rfl rfl (by rw [← Bool.not_eq_true, ma_cmpN (by omega) (by omega)]; show ¬ 3 ≤ v; omega) ?_
      refine rq_st 113 rfl rfl ?_
      refine rq_getf 116 rfl hm2.1 rfl rfl ?_
      refine rq_st 117 rfl rfl ?_
      refine rq_ic 118 (nI 1) rfl (by decide) rfl ?_
      refine rq_iasN 119 rfl (hm2.arrE 0 (n := 3) (f := g) (by decide) rfl rfl rfl) (by omega) (by decide) rfl ?_
      refine rq_incN 122 _ rfl rfl (nI_1 _) rfl rfl ?_
      refine rq_st 107 rfl rfl ?_
      have hm3 := hm2.aput 0 (x := a + 1) (n := 3) (g := upd g v (nI 1)) (by decide) rfl rfl
      rw [bx_uu] at hm3
      exact ih (v + 1) _ _ (by omega) hm3 (fun u hu => by
        by_cases e : u = v
        · rw [e]; exact pk_us
        · rw [pk_un e]; exact hgv u (by omega)) (by rw [List.length_set]; exact hl2) (hg2.set (fun h => absurd h (by omega)))
  refine rq_st 1 rfl rfl ?_
  refine rq_st 4 rfl rfl ?_
  refine rq_st 5 rfl rfl ?_
  refine rq_ic 6 (nI 3) rfl (by decide) rfl ?_
  refine rk_arr 8 11 12 897 3 rfl rfl rfl rfl ho (Nat.le_of_ble_eq_true rfl) rfl (by decide) hl (by decide) (by decide) (fun G1 ho1 ha1 hl1 hg1 => ?_)
  refine rq_st 12 rfl rfl ?_
  refine rq_bp 14 (nI 12) rfl (by decide) rfl ?_
  refine rk_arr 16 19 11 885 12 rfl rfl rfl rfl ho1 (Nat.le_of_ble_eq_true rfl) rfl (by decide) hl1 (by decide) (by decide) (fun G2 ho2 ha2 hl2 hg2 => ?_)
  refine rq_st 20 rfl rfl ?_
  refine rq_ic 21 (nI 4) rfl (by decide) rfl ?_
  refine rk_arr 23 26 10 881 4 rfl rfl rfl rfl ho2 (Nat.le_of_ble_eq_true rfl) rfl (by decide) hl2 (by decide) (by decide) (fun G3 ho3 ha3 hl3 hg3 => ?_)
  refine rq_st 27 rfl rfl ?_
  refine rq_bp 29 (nI 96) rfl (by decide) rfl ?_
  refine rk_arr 31 34 9 785 96 rfl rfl rfl rfl ho3 (Nat.le_of_ble_eq_true rfl) rfl (by decide) hl3 (by decide) (by decide) (fun G4 ho4 ha4 hl4 hg4 => ?_)
  refine rq_st 35 rfl rfl ?_
  refine rq_sp 38 (nI 384) rfl (by decide) rfl ?_
  refine rk_arr 40 43 8 401 384 rfl rfl rfl rfl ho4 (Nat.le_of_ble_eq_true rfl) rfl (by decide) hl4 (by decide) (by decide) (fun G5 ho5 ha5 hl5 hg5 => ?_)
  refine rq_st 44 rfl rfl ?_
  refine rq_bp 46 (nI 16) rfl (by decide) rfl ?_
  refine rk_arr 48 51 7 385 16 rfl rfl rfl rfl ho5 (Nat.le_of_ble_eq_true rfl) rfl (by decide) hl5 (by decide) (by decide) (fun G6 ho6 ha6 hl6 hg6 => ?_)
  refine rq_st 52 rfl rfl ?_
  refine rq_bp 54 (nI 64) rfl (by decide) rfl ?_
  refine rk_arr 56 59 6 321 64 rfl rfl rfl rfl ho6 (Nat.le_of_ble_eq_true rfl) rfl (by decide) hl6 (by decide) (by decide) (fun G7 ho7 ha7 hl7 hg7 => ?_)
  refine rq_st 60 rfl rfl ?_
  refine rq_ic 61 (nI 3) rfl (by decide) rfl ?_
  refine rk_arr 63 66 5 318 3 rfl rfl rfl rfl ho7 (Nat.le_of_ble_eq_true rfl) rfl (by decide) hl7 (by decide) (by decide) (fun G8 ho8 ha8 hl8 hg8 => ?_)
  refine rq_st 67 rfl rfl ?_
  refine rq_ic 68 (nI 3) rfl (by decide) rfl ?_
  refine rk_arr 70 73 4 315 3 rfl rfl rfl rfl ho8 (Nat.le_of_ble_eq_true rfl) rfl (by decide) hl8 (by decide) (by decide) (fun G9 ho9 ha9 hl9 hg9 => ?_)
  refine rq_st 74 rfl rfl ?_
  refine rq_bp 76 (nI 12) rfl (by decide) rfl ?_
  refine rk_arr 78 81 3 303 12 rfl rfl rfl rfl ho9 (Nat.le_of_ble_eq_true rfl) rfl (by decide) hl9 (by decide) (by decide) (fun G10 ho10 ha10 hl10 hg10 => ?_)
  refine rq_st 82 rfl rfl ?_
  refine rq_ic 83 (nI 3) rfl (by decide) rfl ?_
  refine rk_arr 85 88 2 300 3 rfl rfl rfl rfl ho10 (Nat.le_of_ble_eq_true rfl) rfl (by decide) hl10 (by decide) (by decide) (fun G11 ho11 ha11 hl11 hg11 => ?_)
  refine rq_st 89 rfl rfl ?_
  refine rq_sp 92 (nI 288) rfl (by decide) rfl ?_
  refine rk_arr 94 97 1 12 288 rfl rfl rfl rfl ho11 (Nat.le_of_ble_eq_true rfl) rfl (by decide) hl11 (by decide) (by decide) (fun G12 ho12 ha12 hl12 hg12 => ?_)
  refine rq_st 98 rfl rfl ?_
  refine rq_bp 100 (nI 12) rfl (by decide) rfl ?_
  refine rk_arr 102 105 0 0 12 rfl rfl rfl rfl ho12 (Nat.le_of_ble_eq_true rfl) rfl (by decide) hl12 (by decide) (by decide) (fun G13 ho13 ha13 hl13 hg13 => ?_)
  refine rq_ic 106 (nI 0) rfl (by decide) rfl ?_
  refine rq_st 107 rfl rfl ?_
  have T13 : gm (fun x => x = a) G13 G13 := gm.rf
  have T12 := hg13.tr T13
  have T11 := hg12.tr T12
  have T10 := hg11.tr T11
  have T9 := hg10.tr T10
  have T8 := hg9.tr T9
  have T7 := hg8.tr T8
  have T6 := hg7.tr T7
  have T5 := hg6.tr T6
  have T4 := hg5.tr T5
  have T3 := hg4.tr T4
  have T2 := hg3.tr T3
  have T1 := hg2.tr T2
  have T0 := hg1.tr T1
  have hb1 := (T1.ints (a := a + 1) (by omega) (by omega)).trans ha1
  have hb2 := (T2.ints (a := a + 2) (by omega) (by omega)).trans ha2
  have hb3 := (T3.ints (a := a + 3) (by omega) (by omega)).trans ha3
  have hb4 := (T4.ints (a := a + 4) (by omega) (by omega)).trans ha4
  have hb5 := (T5.ints (a := a + 5) (by omega) (by omega)).trans ha5
  have hb6 := (T6.ints (a := a + 6) (by omega) (by omega)).trans ha6
  have hb7 := (T7.ints (a := a + 7) (by omega) (by omega)).trans ha7
  have hb8 := (T8.ints (a := a + 8) (by omega) (by omega)).trans ha8
  have hb9 := (T9.ints (a := a + 9) (by omega) (by omega)).trans ha9
  have hb10 := (T10.ints (a := a + 10) (by omega) (by omega)).trans ha10
  have hb11 := (T11.ints (a := a + 11) (by omega) (by omega)).trans ha11
  have hb12 := (T12.ints (a := a + 12) (by omega) (by omega)).trans ha12
  have hb13 := (T13.ints (a := a + 13) (by omega) (by omega)).trans ha13
  have hm : mdl a (va_up (fun _ _ => 0) 0 (fun _ => 0)) 0 0 0 0 G13 := by
    refine ⟨ho13, fun k hk => ?_⟩
    rcases (show k = 0 ∨ k = 1 ∨ k = 2 ∨ k = 3 ∨ k = 4 ∨ k = 5 ∨ k = 6 ∨ k = 7 ∨ k = 8 ∨ k = 9 ∨ k = 10 ∨ k = 11 ∨ k = 12 by omega) with rfl | rfl | rfl | rfl | rfl | rfl | rfl | rfl | rfl | rfl | rfl | rfl | rfl
    · exact hb1
    · exact hb2
    · exact hb3
    · exact hb4
    · exact hb5
    · exact hb6
    · exact hb7
    · exact hb8
    · exact hb9
    · exact hb10
    · exact hb11
    · exact hb12
    · exact hb13
  exact loop 3 0 G13 _ (by omega) hm (fun u hu => absurd hu (Nat.not_lt_zero u)) hl13 T0
