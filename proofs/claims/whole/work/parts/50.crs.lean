/-! the class: a course is read and judged -/
def fitN (A : Nat → Nat → Int32) (kn : Nat → Nat → Nat) (c : Nat) (f : Nat → Nat) (m v a : Nat) : Prop := vld A kn c a ∧ (∃ q, q < 12 ∧ A 4 (4 * a) = nI q ∧ f q = m) ∧ A 4 (4 * a + 1) = nI v
theorem fitN_day {A : Nat → Nat → Int32} {kn : Nat → Nat → Nat} {c : Nat} {f : Nat → Nat} {m v : Nat} (hw : wfD A kn c) : ∀ a, a < 96 → fitN A kn c f m v a → A 4 (4 * a + 3) = nI (dyA A a) ∧ dyA A a ≤ 40000 := by
  intro a ha h
  obtain ⟨q, dd, -, h2, -, h4⟩ := hw a ha h.1.1.1 h.1.1.2
  unfold dyA
  rw [h4, nI_clamp (by omega)]
  exact ⟨rfl, h2⟩
def rcP (A : Nat → Nat → Int32) (kn : Nat → Nat → Nat) (c m v z : Nat) (f : Nat → Nat) (k : Nat) (ld : Int32) : Prop := ∃ lt, jfN (fun i => A 1 (4 * v + i)) z (sl (fitN A kn c f m v) (dyA A) 96) 0 (nI 0) = (k, lt) ∧ k ≤ z ∧ (0 < k → ld = lt)
theorem p_X6_readCourse (d : Nat) {G : ma_G} {A : Nat → Nat → Int32} {n : Nat → Nat} {kn : Nat → Nat → Nat} {hr : Nat → Nat → Nat → Nat} (hR : cRd A n kn hr G) (hk : mKn A n kn) {dz : Nat → Nat} (hSc : cSc A dz G) (hdz : mDz A dz) {D0 : Nat → Int32} {sz0 k0 : Nat} {ld0 : Int32} (hc0 : co G 47 D0 sz0 k0 ld0) (c : Nat) (hc : c < 4) (hwd : wfD A kn c) {g : Nat → Int32} {f : Nat → Nat} (hm : nmp G 45 g) (hg : nF g f) (m : Nat) (hm12 : m < 12) (v : Nat) (hv : v < 3) : Cq (d + 5) 77 [.ref 1, .int (nI c), .int (nI m), .int (nI v)] G (coQ2 G 47 (fun _ _ k ld => rcP A kn c m v (dz v) f k ld)) := by
  refine cq_of rfl ?_
  have hz1 := hdz v hv
  have outer : ∀ (z dd : Nat) (o5 : Option Value) (l : List Nat) (D : Nat → Int32) (ld : Int32) (G2 : ma_G), dd + z = 4 → l = (sl (fitN A kn c f m v) (dyA A) (24 * dd)) → co G2 47 D l.length 0 ld → lstF id D 0 l → sm (cIn2 47) G G2 → Rq (d + 4) M_X6_readCourse 10 [some (.ref 1), some (.int (nI c)), some (.int (nI m)), some (.int (nI v)), some (.int (nI dd)), o5] [] G2 (Qr (coQ2 G 47 (fun _ _ k ld => rcP A kn c m v (dz v) f k ld))) := by
    intro z
    induction z with
    | zero =>
      intro dd o5 l D ld G2 hdd hl0 hc2 hD hs2
      obtain rfl : dd = 4 := by omega
      have hlen : l.length ≤ 96 := by rw [hl0]; exact sl_len _
      have hSc2 := hSc.sm hs2 (fun a h1 h2 q => absurd q.1 (by omega))
      refine rq_st 12 rfl rfl ?_
      refine rq_ic 13 (nI 4) rfl (by decide) rfl ?_
      refine rq_cmpt rfl ((ma_cmpN (by omega) (by omega)).mpr (by show 4 ≤ 4; omega)) ?_
      have hR2 := hR.sm hs2 (fun a h1 h2 q => absurd q.1 (by omega))
      obtain ⟨⟨hx, ⟨f2, hf2, hf2b⟩, ⟨f6, hf6, hf6b⟩, ⟨f7, hf7, hf7b⟩, ⟨f32, hf32, hf32b⟩⟩, hbk, hcl⟩ := id hR2
      obtain ⟨Kn, Hd, hl, hK, hH⟩ := hcl c hc
      have hm2 := hm.sm hs2 (fun q => absurd q.1 (by omega)) (fun q => absurd q.1 (by omega))
      refine rq_st 93 rfl rfl ?_
      refine rq_getf 96 rfl hx rfl rfl ?_
      refine rq_st 97 rfl rfl ?_
      refine rq_getf 100 rfl hx rfl rfl ?_
      refine rq_st 101 rfl rfl ?_
      refine rq_aalN 102 rfl hf2 (by omega) (by decide) (hf2b v hv) rfl ?_
      refine rq_callq [_, _] _ 105 rfl rfl rfl rfl rfl (Nat.le_of_ble_eq_true rfl) (cats rfl) (rcv_s rfl hc2.1) (p_X2_count (d + 2) hc2 hD hlen (hSc2 v hv) (fun q => absurd q.1 (by omega)) hz1.2.1 hz1.2.2) rfl (fun v9 G3 hv9 => ?_)
      obtain ⟨rfl, hs3, D3, sz3, k3, ld3, hc3, lt3, hj3, hkz3, hlt3⟩ := hv9
      exact rq_vret rfl rfl ⟨rfl, hs2.tr hs3, D3, sz3, k3, ld3, hc3, lt3, by subst hl0; exact hj3, hkz3, hlt3⟩
    | succ z ih =>
      intro dd o5 l D ld G2 hdd hl hc2 hD hs2
      have hd4 : dd < 4 := by omega
      have hkn := hk.2 c dd hc hd4
      have hn24 := (hk.1 dd hd4).2
      have inner : ∀ (y i : Nat) (l : List Nat) (D : Nat → Int32) (ld : Int32) (G2 : ma_G), i + y = kn c dd → l = (sl (fitN A kn c f m v) (dyA A) (24 * dd + i)) → co G2 47 D l.length 0 ld → lstF id D 0 l → sm (cIn2 47) G G2 → Rq (d + 4) M_X6_readCourse 19 [some (.ref 1), some (.int (nI c)), some (.int (nI m)), some (.int (nI v)), some (.int (nI dd)), some (.int (nI i))] [] G2 (Qr (coQ2 G 47 (fun _ _ k ld => rcP A kn c m v (dz v) f k ld))) := by
        intro y
        induction y with
        | zero =>
          intro i l D ld G2 hi hl0 hc2 hD hs2
          obtain rfl : i = kn c dd := by omega
          have hR2 := hR.sm hs2 (fun a h1 h2 q => absurd q.1 (by omega))
          obtain ⟨⟨hx, ⟨f2, hf2, hf2b⟩, ⟨f6, hf6, hf6b⟩, ⟨f7, hf7, hf7b⟩, ⟨f32, hf32, hf32b⟩⟩, hbk, hcl⟩ := id hR2
          obtain ⟨Kn, Hd, hl, hK, hH⟩ := hcl c hc
          have hm2 := hm.sm hs2 (fun q => absurd q.1 (by omega)) (fun q => absurd q.1 (by omega))
          refine rq_st 21 rfl rfl ?_
          refine rq_st 22 rfl rfl ?_
          refine rq_getf 25 rfl hx rfl rfl ?_
          refine rq_st 26 rfl rfl ?_
          refine rq_aalN 27 rfl hf7 (by omega) (by decide) (hf7b c hc) rfl ?_
          refine rq_st 29 rfl rfl ?_
          refine rq_call [_, _] _ 32 rfl rfl rfl rfl rfl (Nat.le_of_ble_eq_true rfl) (cats rfl) (rcv_s rfl hl.1) (p_X1_knows (d + 2) hl hK dd hd4) rfl ?_
          refine rq_cmpt rfl ((ma_cmpN (by omega) (by omega)).mpr (by show kn c dd ≤ kn c dd; omega)) ?_
          refine rq_incN 89 _ rfl rfl (nI_1 _) rfl rfl ?_
          refine rq_st 10 rfl rfl ?_
          have hsk := sl_skip (F := (fitN A kn c f m v)) (dy := dyA A) (m := 24 * dd + kn c dd) (24 - kn c dd) (fun a h1 h2 q => isK_no h1 (by omega) q.1.1.1)
          rw [show 24 * dd + kn c dd + (24 - kn c dd) = 24 * (dd + 1) by omega] at hsk
          exact ih (dd + 1) _ l D ld G2 (by omega) (hl0.trans hsk.symm) hc2 hD hs2
        | succ y ihi =>
          intro i l D ld G2 hi hl0 hc2 hD hs2
          have hiK : isK kn c (24 * dd + i) := isK_yes (by omega) (by omega)
          have hlen : l.length ≤ 24 * dd + i := by rw [hl0]; exact sl_len _
          have hsrt : l.Pairwise (· ≤ ·) := by rw [hl0]; exact sl_srt _
          have hl40 : ∀ y, y ∈ l → y ≤ 40000 := fun y hy => by
            rw [hl0] at hy
            obtain ⟨a, ha, hF, rfl⟩ := sl_mem _ _ hy
            exact (fitN_day hwd a (by omega) hF).2
          have hR2 := hR.sm hs2 (fun a h1 h2 q => absurd q.1 (by omega))
          obtain ⟨⟨hx, ⟨f2, hf2, hf2b⟩, ⟨f6, hf6, hf6b⟩, ⟨f7, hf7, hf7b⟩, ⟨f32, hf32, hf32b⟩⟩, hbk, hcl⟩ := id hR2
          obtain ⟨Kn, Hd, hl, hK, hH⟩ := hcl c hc
          have hm2 := hm.sm hs2 (fun q => absurd q.1 (by omega)) (fun q => absurd q.1 (by omega))
          obtain ⟨K, N, hb, hA⟩ := hbk dd hd4
          refine rq_st 21 rfl rfl ?_
          refine rq_st 22 rfl rfl ?_
          refine rq_getf 25 rfl hx rfl rfl ?_
          refine rq_st 26 rfl rfl ?_
          refine rq_aalN 27 rfl hf7 (by omega) (by decide) (hf7b c hc) rfl ?_
          refine rq_st 29 rfl rfl ?_
          refine rq_call [_, _] _ 32 rfl rfl rfl rfl rfl (Nat.le_of_ble_eq_true rfl) (cats rfl) (rcv_s rfl hl.1) (p_X1_knows (d + 2) hl hK dd hd4) rfl ?_
          refine rq_cmpf 35 rfl rfl (by rw [← Bool.not_eq_true, ma_cmpN (by omega) (by omega)]; show ¬ kn c dd ≤ i; omega) ?_
          refine rq_st 36 rfl rfl ?_
          refine rq_st 38 rfl rfl ?_
          refine rq_st 40 rfl rfl ?_
          refine rq_st 41 rfl rfl ?_
          refine rq_st 42 rfl rfl ?_
          refine rq_call [_, _, _, _, _] _ 45 rfl rfl rfl rfl rfl (Nat.le_of_ble_eq_true rfl) (cats rfl) (rcv_s rfl hx) (p_X6_isDoseOf (d + 1) hR2 hk c hc dd hd4 i (by omega) hwd hm2 hg m hm12 v) rfl ?_
          refine rq_ifB 48 rfl rfl (fun h45 => ?_) (fun h45 => ?_)
          · skip
            have hfit : ¬ (fitN A kn c f m v) (24 * dd + i) := fun q => h45 ⟨q.1.1.2, q.2.1, q.2.2⟩
            refine rq_incN 83 _ rfl rfl (nI_1 _) rfl rfl ?_
            refine rq_st 19 rfl rfl ?_
            first
              | exact ihi (i + 1) _ D3 ld3 _ (by omega) (by rw [hl0, show 24 * dd + (i + 1) = 24 * dd + i + 1 by omega, sl_y hfit]) (by rw [ins_len]; exact hc3) hD3 (hs2.tr hs3)
              | exact ihi (i + 1) l D ld _ (by omega) (by rw [hl0, show 24 * dd + (i + 1) = 24 * dd + i + 1 by omega, sl_n hfit]) hc2 hD hs2
          · skip
            refine rq_st 49 rfl rfl ?_
            refine rq_st 50 rfl rfl ?_
            refine rq_st 52 rfl rfl ?_
            refine rq_st 54 rfl rfl ?_
            refine rq_call [_, _, _, _] _ 57 rfl rfl rfl rfl rfl (Nat.le_of_ble_eq_true rfl) (cats rfl) (rcv_s rfl hx) (p_X6_isValid d hR2 hk c hc dd hd4 i (by omega)) rfl ?_
            refine rq_ifB 60 rfl rfl (fun h57 => ?_) (fun h57 => ?_)
            · skip
              have hfit : ¬ (fitN A kn c f m v) (24 * dd + i) := fun q => h57 (by have q2 := q.1.2; rw [show (24 * dd + i) / 24 = dd by omega, show (24 * dd + i) % 24 = i by omega] at q2; exact q2)
              refine rq_incN 83 _ rfl rfl (nI_1 _) rfl rfl ?_
              refine rq_st 19 rfl rfl ?_
              first
                | exact ihi (i + 1) _ D3 ld3 _ (by omega) (by rw [hl0, show 24 * dd + (i + 1) = 24 * dd + i + 1 by omega, sl_y hfit]) (by rw [ins_len]; exact hc3) hD3 (hs2.tr hs3)
                | exact ihi (i + 1) l D ld _ (by omega) (by rw [hl0, show 24 * dd + (i + 1) = 24 * dd + i + 1 by omega, sl_n hfit]) hc2 hD hs2
            · skip
              have hfit : (fitN A kn c f m v) (24 * dd + i) := ⟨⟨⟨hiK, h45.1⟩, by rw [show (24 * dd + i) / 24 = dd by omega, show (24 * dd + i) % 24 = i by omega]; exact h57⟩, h45.2.1, h45.2.2⟩
              have hday := fitN_day hwd (24 * dd + i) (by omega) hfit
              refine rq_st 61 rfl rfl ?_
              refine rq_getf 64 rfl hx rfl rfl ?_
              refine rq_st 65 rfl rfl ?_
              refine rq_getf 68 rfl hx rfl rfl ?_
              refine rq_st 70 rfl rfl ?_
              refine rq_aalN 71 rfl hf6 (by omega) (by decide) (hf6b dd hd4) rfl ?_
              refine rq_st 73 rfl rfl ?_
              refine rq_ic 74 (nI 4) rfl (by decide) rfl ?_
              refine rq_call [_, _, _] _ 77 rfl rfl rfl rfl rfl (Nat.le_of_ble_eq_true rfl) (cats rfl) (rcv_s rfl hb.1) (p_X0_numberOf (d + 3) hb hn24 hA i (by omega) 3 (by decide)) rfl ?_
              rw [hday.1]
              refine rq_callq [_, _] _ 80 rfl rfl rfl rfl rfl (Nat.le_of_ble_eq_true rfl) (cats rfl) (rcv_s rfl hc2.1) (p_X2_add (d + 3) hc2 hD (by omega) hl40 hsrt (dyA A (24 * dd + i)) hday.2) rfl (fun v9 G3 hv9 => ?_)
              obtain ⟨rfl, hs3, D3, sz3, k3, ld3, hc3, hD3, rfl, rfl⟩ := hv9
              refine rq_incN 83 _ rfl rfl (nI_1 _) rfl rfl ?_
              refine rq_st 19 rfl rfl ?_
              first
                | exact ihi (i + 1) _ D3 ld3 _ (by omega) (by rw [hl0, show 24 * dd + (i + 1) = 24 * dd + i + 1 by omega, sl_y hfit]) (by rw [ins_len]; exact hc3) hD3 (hs2.tr hs3)
                | exact ihi (i + 1) l D ld _ (by omega) (by rw [hl0, show 24 * dd + (i + 1) = 24 * dd + i + 1 by omega, sl_n hfit]) hc2 hD hs2
      refine rq_st 12 rfl rfl ?_
      refine rq_ic 13 (nI 4) rfl (by decide) rfl ?_
      refine rq_cmpf 16 rfl rfl (by rw [← Bool.not_eq_true, ma_cmpN (by omega) (by omega)]; show ¬ 4 ≤ dd; omega) ?_
      refine rq_ic 17 (nI 0) rfl (by decide) rfl ?_
      refine rq_st 19 rfl rfl ?_
      exact inner (kn c dd) 0 l D ld G2 (by omega) hl hc2 hD hs2
  obtain ⟨⟨hx, ⟨f2, hf2, hf2b⟩, ⟨f6, hf6, hf6b⟩, ⟨f7, hf7, hf7b⟩, ⟨f32, hf32, hf32b⟩⟩, hbk, hcl⟩ := id hR
  refine rq_st 1 rfl rfl ?_
  refine rq_getf 4 rfl hx rfl rfl ?_
  refine rq_callq [_] _ 7 rfl rfl rfl rfl rfl (Nat.le_of_ble_eq_true rfl) (cats rfl) (rcv_s rfl hc0.1) (p_X2_clear (d + 3) hc0) rfl (fun v9 G3 hv9 => ?_)
  obtain ⟨rfl, hs3, D3, sz3, k3, ld3, hc3, rfl, rfl⟩ := hv9
  refine rq_ic 8 (nI 0) rfl (by decide) rfl ?_
  refine rq_st 10 rfl rfl ?_
  exact outer 4 0 _ [] D3 ld3 G3 (by omega) rfl hc3 (fun j hj => absurd hj (Nat.not_lt_zero j)) hs3
