theorem mdl.aset {b : Nat} {A : Nat → Nat → Int32} {t cn lt gd : Int32} {G : ma_G} (h : mdl b A t cn lt gd G) (A' : Nat → Nat → Int32) (k : Nat) (hk : k < 13) {x n : Nat} {g : Nat → Int32} (hx : b + 1 + k = x) (hn : mLen k = n) (hg : A' k = g) (hne : ∀ j, j ≠ k → A' j = A j) : mdl b A' t cn lt gd (G.set x (.inl (0, n, .inl g))) := by
  have q := h.aput k (g := g) hk hx hn
  rw [show A' = va_up A k g from by
    funext j
    unfold va_up
    split
    · rename_i e; rw [e, hg]
    · rename_i e; exact hne j e]
  exact q
/-- the rows of the sticks -/
def rA (A : Nat → Nat → Int32) (g7 g8 g9 g10 g11 : Nat → Int32) : Nat → Nat → Int32 := fun k => if k = 7 then g7 else if k = 8 then g8 else if k = 9 then g9 else if k = 10 then g10 else if k = 11 then g11 else A k
theorem rA_id (A : Nat → Nat → Int32) : rA A (A 7) (A 8) (A 9) (A 10) (A 11) = A := by
  funext k
  unfold rA
  repeat' split
  all_goals first | rfl | (rename_i h; rw [h])
theorem mdl.r7 {b : Nat} {A : Nat → Nat → Int32} {g7 g8 g9 g10 g11 : Nat → Int32} {t cn lt gd : Int32} {G : ma_G} (h : mdl b (rA A g7 g8 g9 g10 g11) t cn lt gd G) {g : Nat → Int32} : mdl b (rA A g g8 g9 g10 g11) t cn lt gd (G.set (b + 8) (.inl (0, 3, .inl g))) := h.aset _ 7 (by decide) rfl rfl rfl (fun j hj => by simp [rA, hj])
theorem mdl.r8 {b : Nat} {A : Nat → Nat → Int32} {g7 g8 g9 g10 g11 : Nat → Int32} {t cn lt gd : Int32} {G : ma_G} (h : mdl b (rA A g7 g8 g9 g10 g11) t cn lt gd G) {g : Nat → Int32} : mdl b (rA A g7 g g9 g10 g11) t cn lt gd (G.set (b + 9) (.inl (0, 3, .inl g))) := h.aset _ 8 (by decide) rfl rfl rfl (fun j hj => by simp [rA, hj])
theorem mdl.r9 {b : Nat} {A : Nat → Nat → Int32} {g7 g8 g9 g10 g11 : Nat → Int32} {t cn lt gd : Int32} {G : ma_G} (h : mdl b (rA A g7 g8 g9 g10 g11) t cn lt gd G) {g : Nat → Int32} : mdl b (rA A g7 g8 g g10 g11) t cn lt gd (G.set (b + 10) (.inl (0, 12, .inl g))) := h.aset _ 9 (by decide) rfl rfl rfl (fun j hj => by simp [rA, hj])
theorem mdl.r10 {b : Nat} {A : Nat → Nat → Int32} {g7 g8 g9 g10 g11 : Nat → Int32} {t cn lt gd : Int32} {G : ma_G} (h : mdl b (rA A g7 g8 g9 g10 g11) t cn lt gd G) {g : Nat → Int32} : mdl b (rA A g7 g8 g9 g g11) t cn lt gd (G.set (b + 11) (.inl (0, 3, .inl g))) := h.aset _ 10 (by decide) rfl rfl rfl (fun j hj => by simp [rA, hj])
theorem mdl.r11 {b : Nat} {A : Nat → Nat → Int32} {g7 g8 g9 g10 g11 : Nat → Int32} {t cn lt gd : Int32} {G : ma_G} (h : mdl b (rA A g7 g8 g9 g10 g11) t cn lt gd G) {g : Nat → Int32} : mdl b (rA A g7 g8 g9 g10 g) t cn lt gd (G.set (b + 12) (.inl (0, 288, .inl g))) := h.aset _ 11 (by decide) rfl rfl rfl (fun j hj => by simp [rA, hj])
/-- a list of places, run on by m from a -/
def apR (l : List Nat) (a : Nat) : Nat → List Nat
  | 0 => l
  | m + 1 => apR (l ++ [a]) (a + 1) m
theorem apR_len : ∀ (m a : Nat) (l : List Nat), (apR l a m).length = l.length + m := by
  intro m
  induction m with
  | zero => intro a l; rfl
  | succ m ih => intro a l; rw [apR, ih, List.length_append, List.length_singleton]; omega
theorem apR_mem {x : Nat} : ∀ (m a : Nat) (l : List Nat), x ∈ apR l a m → x ∈ l ∨ (a ≤ x ∧ x < a + m) := by
  intro m
  induction m with
  | zero => intro a l h; exact Or.inl h
  | succ m ih =>
    intro a l h
    rcases ih _ _ h with h | h
    · rcases List.mem_append.mp h with h | h
      · exact Or.inl h
      · rw [List.mem_singleton.mp h]; exact Or.inr ⟨by omega, by omega⟩
    · exact Or.inr ⟨by omega, by omega⟩
/-- what a clinic writes of the first books -/
def wrL (hr : Nat → Nat → Nat → Nat) (kn : Nat → Nat → Nat) (c : Nat) : Nat → List Nat
  | 0 => []
  | d + 1 => apR (wrL hr kn c d) (24 * d + lsN hr c d 4) (kn c d - lsN hr c d 4)
theorem wrL_len {hr : Nat → Nat → Nat → Nat} {kn : Nat → Nat → Nat} {c : Nat} (h : ∀ d, d < 4 → kn c d ≤ 24) : ∀ d, d ≤ 4 → (wrL hr kn c d).length ≤ 24 * d := by
  intro d
  induction d with
  | zero => intro _; exact Nat.le_refl 0
  | succ d ih =>
    intro hd
    rw [wrL, apR_len]
    have := ih (by omega)
    have := h d (by omega)
    omega
theorem wrL_mem {hr : Nat → Nat → Nat → Nat} {kn : Nat → Nat → Nat} {c x : Nat} (h : ∀ d, d < 4 → kn c d ≤ 24) : ∀ d, d ≤ 4 → x ∈ wrL hr kn c d → x < 24 * d ∧ x % 24 < kn c (x / 24) := by
  intro d
  induction d with
  | zero => intro _ hx; cases hx
  | succ d ih =>
    intro hd hx
    rcases apR_mem _ _ _ hx with hx | hx
    · have := ih (by omega) hx
      exact ⟨by omega, this.2⟩
    · have := h d (by omega)
      have e : x / 24 = d := by omega
      rw [e]
      exact ⟨by omega, by omega⟩
/-- the array holds the list from o on -/
def lstF (h : Nat → Nat) (g : Nat → Int32) (o : Nat) (l : List Nat) : Prop := ∀ j, j < l.length → g (o + j) = nI (h (l.getD j 0))
theorem getD_app {l : List Nat} {x j : Nat} (hj : j < l.length) : (l ++ [x]).getD j 0 = l.getD j 0 := by
  rw [List.getD_eq_getElem?_getD, List.getD_eq_getElem?_getD, List.getElem?_append_left hj]
theorem getD_last {l : List Nat} {x : Nat} : (l ++ [x]).getD l.length 0 = x := by
  rw [List.getD_eq_getElem?_getD, List.getElem?_append_right (Nat.le_refl _), Nat.sub_self]
  rfl
theorem lstF_app {h : Nat → Nat} {g : Nat → Int32} {o x : Nat} {l : List Nat} (q : lstF h g o l) : lstF h (upd g (o + l.length) (nI (h x))) o (l ++ [x]) := by
  intro j hj
  rw [List.length_append, List.length_singleton] at hj
  by_cases e : j = l.length
  · rw [e, getD_last]; exact pk_us
  · rw [getD_app (by omega), pk_un (by omega)]
    exact q j (by omega)
def smO (g g' : Nat → Int32) (o m : Nat) : Prop := ∀ j, (j < o ∨ o + m ≤ j) → g' j = g j
theorem smO.up {g g' : Nat → Int32} {o m i : Nat} {x : Int32} (h : smO g g' o m) (h1 : o ≤ i) (h2 : i < o + m) : smO g (upd g' i x) o m := fun j hj => by
  rw [pk_un (by omega)]
  exact h j hj
def wrQ (b : Nat) (A : Nat → Nat → Int32) (kn : Nat → Nat → Nat) (hr : Nat → Nat → Nat → Nat) (cn lt gd : Int32) (G : ma_G) (c s : Int32) (r : Option Value) (G' : ma_G) : Prop := sm (mIn b) G G' ∧ ((¬ (inN c 4 ∧ inN s 3) ∧ r = some (.int (nI 0)) ∧ mdl b A (nI 1) cn lt gd G') ∨ ∃ cc ss g9 g11, cc < 4 ∧ ss < 3 ∧ c = nI cc ∧ s = nI ss ∧ r = some (.int (nI (1 + ((wrL hr kn cc 4).length + 3) / 4))) ∧ smO (A 9) g9 (4 * ss) 4 ∧ (∀ e, e < 4 → g9 (4 * ss + e) = nI (kn cc e)) ∧ smO (A 11) g11 (96 * ss) 96 ∧ lstF id g11 (96 * ss) (wrL hr kn cc 4)
  ∧ mdl b (rA A (upd (A 7) ss (nI (1 + ((wrL hr kn cc 4).length + 3) / 4))) (upd (A 8) ss (nI cc)) g9 (upd (A 10) ss (nI (wrL hr kn cc 4).length)) g11) (nI 0) cn lt gd G')
theorem upd_upd {f : Nat → Int32} {k : Nat} {x y : Int32} : upd (upd f k x) k y = upd f k y := by
  funext j
  unfold upd
  split <;> rfl
theorem p_X7_write (d : Nat) {b : Nat} {A : Nat → Nat → Int32} {t cn lt gd : Int32} {G : ma_G} (hm : mdl b A t cn lt gd G) {n : Nat → Nat} {kn : Nat → Nat → Nat} (hk : mKn A n kn) {hr : Nat → Nat → Nat → Nat} (hh : mHr A hr) (c s : Int32) : Cq (d + 2) 110 [.ref b, .int c, .int s] G (wrQ b A kn hr cn lt gd G c s) := by
  refine cq_of rfl ?_
  have Jb : ¬ (inN c 4 ∧ inN s 3) → Rq (d + 1) M_X7_write 21 [some (.ref b), some (.int c), some (.int s), none, none] [.ref b] G (Qr (wrQ b A kn hr cn lt gd G c s)) := by
    intro hbad
    refine rq_ic 22 (nI 1) rfl (by decide) rfl ?_
    refine rq_puti 25 rfl hm.1 (Nat.le_of_ble_eq_true rfl) rfl rfl ?_
    have hm1 := hm.thr (nI 1)
    refine rq_st 26 rfl rfl ?_
    refine rq_getf 29 rfl hm1.1 rfl rfl ?_
    refine rq_iff 32 rfl rfl (by decide) ?_
    refine rq_ic 33 (nI 0) rfl (by decide) rfl ?_
    exact rq_iret rfl rfl rfl ⟨sm.rf.set (mIn_0 b), Or.inl ⟨hbad, rfl, hm1⟩⟩
  have outer : ∀ cc, cc < 4 → ∀ ss, ss < 3 → ∀ (m dd : Nat) (g9 g11 : Nat → Int32) (G2 : ma_G) (o4 : Option Value), dd + m = 4 → smO (A 9) g9 (4 * ss) 4 → (∀ e, e < dd → g9 (4 * ss + e) = nI (kn cc e)) → smO (A 11) g11 (96 * ss) 96 → lstF id g11 (96 * ss) (wrL hr kn cc dd) → mdl b (rA A (A 7) (upd (A 8) ss (nI cc)) g9 (upd (A 10) ss (nI (wrL hr kn cc dd).length)) g11) (nI 0) cn lt gd G2 → sm (mIn b) G G2 → Rq (d + 1) M_X7_write 50 [some (.ref b), some (.int (nI cc)), some (.int (nI ss)), some (.int (nI dd)), o4] [] G2 (Qr (wrQ b A kn hr cn lt gd G (nI cc) (nI ss))) := by
    intro cc hc ss hs m
    have hkl : ∀ d, d < 4 → kn cc d ≤ 24 := fun d hd => hk.le hc hd
    induction m with
    | zero =>
      intro dd g9 g11 G2 o4 hdd h9 h9b h11 hl hm2 hs2
      have hlen := wrL_len (hr := hr) hkl 4 (by omega)
      refine rq_st 51 rfl rfl ?_
      refine rq_ic 52 (nI 4) rfl (by decide) rfl ?_
      refine rq_cmpt rfl ((ma_cmpN (by omega) (by omega)).mpr (by show 4 ≤ dd; omega)) ?_
      obtain rfl : dd = 4 := by omega
      refine rq_st 144 rfl rfl ?_
      refine rq_getf 147 rfl hm2.1 rfl rfl ?_
      refine rq_st 148 rfl rfl ?_
      refine rq_ic 149 (nI 1) rfl (by decide) rfl ?_
      refine rq_st 150 rfl rfl ?_
      refine rq_getf 153 rfl hm2.1 rfl rfl ?_
      refine rq_st 154 rfl rfl ?_
      refine rq_ialN 155 rfl (hm2.arrE 10 (n := 3) (f := (upd (A 10) ss (nI (wrL hr kn cc 4).length))) (by decide) rfl rfl rfl) (by omega) (by decide) rfl ?_
      rw [pk_us]
      refine rq_ic 156 (nI 3) rfl (by decide) rfl ?_
      refine rq_addN 157 rfl rfl ?_
      refine rq_ic 158 (nI 4) rfl (by decide) rfl ?_
      refine rq_divN 159 rfl (by omega) (by decide) (by decide) rfl ?_
      refine rq_addN 160 rfl rfl ?_
      refine rq_iasN 161 rfl (hm2.arrE 7 (n := 3) (f := (A 7)) (by decide) rfl rfl rfl) (by omega) (by decide) rfl ?_
      have hm3 := hm2.r7 (g := upd (A 7) ss (nI (1 + ((wrL hr kn cc 4).length + 3) / 4)))
      refine rq_st 162 rfl rfl ?_
      refine rq_getf 165 rfl hm3.1 rfl rfl ?_
      refine rq_st 166 rfl rfl ?_
      refine rq_ialN 167 rfl (hm3.arrE 7 (n := 3) (f := (upd (A 7) ss (nI (1 + ((wrL hr kn cc 4).length + 3) / 4)))) (by decide) rfl rfl rfl) (by omega) (by decide) rfl ?_
      rw [pk_us]
      exact rq_iret rfl rfl rfl ⟨hs2.set (mIn_k (by decide)), Or.inr ⟨cc, ss, g9, g11, hc, hs, rfl, rfl, rfl, h9, h9b, h11, hl, hm3⟩⟩
    | succ m ih =>
      intro dd g9 g11 G2 o4 hdd h9 h9b h11 hl hm2 hs2
      have hlen := wrL_len (hr := hr) hkl dd (by omega)
      have hkd := hkl dd (by omega)
      have hls := lsN_le hr cc dd 4
      have inner : ∀ (g9 : Nat → Int32), smO (A 9) g9 (4 * ss) 4 → (∀ e, e < dd + 1 → g9 (4 * ss + e) = nI (kn cc e)) → ∀ (m2 i : Nat) (l : List Nat) (g11 : Nat → Int32) (G2 : ma_G), m2 = kn cc dd - i → i ≤ 24 → l.length + m2 ≤ 24 * dd + 24 → wrL hr kn cc (dd + 1) = apR l (24 * dd + i) m2 → smO (A 11) g11 (96 * ss) 96 → lstF id g11 (96 * ss) l → mdl b (rA A (A 7) (upd (A 8) ss (nI cc)) g9 (upd (A 10) ss (nI l.length)) g11) (nI 0) cn lt gd G2 → sm (mIn b) G G2 → Rq (d + 1) M_X7_write 83 [some (.ref b), some (.int (nI cc)), some (.int (nI ss)), some (.int (nI dd)), some (.int (nI i))] [] G2 (Qr (wrQ b A kn hr cn lt gd G (nI cc) (nI ss))) := by
        intro g9 h9 h9b m2
        induction m2 with
        | zero =>
          intro i l g11 G2 hi hi2 hl2 hfin h11 hl hm2 hs2
          refine rq_st 85 rfl rfl ?_
          refine rq_st 86 rfl rfl ?_
          refine rq_getf 89 rfl hm2.1 rfl rfl ?_
          refine rq_ic 90 (nI 4) rfl (by decide) rfl ?_
          refine rq_st 91 rfl rfl ?_
          refine rq_mulN 92 rfl rfl ?_
          refine rq_st 93 rfl rfl ?_
          refine rq_addN 94 rfl rfl ?_
          refine rq_ialN 95 rfl (hm2.arrE 5 (n := 16) (f := (A 5)) (by decide) rfl rfl rfl) (by omega) (by decide) rfl ?_
          rw [(hk.2 cc dd hc (by omega)).1]
          refine rq_cmpt rfl ((ma_cmpN (by omega) (by omega)).mpr (by show kn cc dd ≤ i; omega)) ?_
          refine rq_incN 140 _ rfl rfl (nI_1 _) rfl rfl ?_
          refine rq_st 50 rfl rfl ?_
          rw [apR] at hfin
          subst hfin
          exact ih (dd + 1) g9 g11 G2 _ (by omega) h9 (fun e he => h9b e (by omega)) h11 hl hm2 hs2
        | succ m2 ihm =>
          intro i l g11 G2 hi hi2 hl2 hfin h11 hl hm2 hs2
          refine rq_st 85 rfl rfl ?_
          refine rq_st 86 rfl rfl ?_
          refine rq_getf 89 rfl hm2.1 rfl rfl ?_
          refine rq_ic 90 (nI 4) rfl (by decide) rfl ?_
          refine rq_st 91 rfl rfl ?_
          refine rq_mulN 92 rfl rfl ?_
          refine rq_st 93 rfl rfl ?_
          refine rq_addN 94 rfl rfl ?_
          refine rq_ialN 95 rfl (hm2.arrE 5 (n := 16) (f := (A 5)) (by decide) rfl rfl rfl) (by omega) (by decide) rfl ?_
          rw [(hk.2 cc dd hc (by omega)).1]
          refine rq_cmpf 98 rfl rfl (by rw [← Bool.not_eq_true, ma_cmpN (by omega) (by omega)]; show ¬ kn cc dd ≤ i; omega) ?_
          refine rq_st 99 rfl rfl ?_
          refine rq_getf 102 rfl hm2.1 rfl rfl ?_
          refine rq_bp 104 (nI 96) rfl (by decide) rfl ?_
          refine rq_st 105 rfl rfl ?_
          refine rq_mulN 106 rfl rfl ?_
          refine rq_st 107 rfl rfl ?_
          refine rq_getf 110 rfl hm2.1 rfl rfl ?_
          refine rq_st 111 rfl rfl ?_
          refine rq_ialN 112 rfl (hm2.arrE 10 (n := 3) (f := (upd (A 10) ss (nI l.length))) (by decide) rfl rfl rfl) (by omega) (by decide) rfl ?_
          rw [pk_us]
          refine rq_addN 113 rfl rfl ?_
          refine rq_bp 115 (nI 24) rfl (by decide) rfl ?_
          refine rq_st 116 rfl rfl ?_
          refine rq_mulN 117 rfl rfl ?_
          refine rq_st 119 rfl rfl ?_
          refine rq_addN 120 rfl rfl ?_
          refine rq_iasN 121 rfl (hm2.arrE 11 (n := 288) (f := g11) (by decide) rfl rfl rfl) (by omega) (by decide) rfl ?_
          have hm3 := hm2.r11 (g := upd g11 (96 * ss + l.length) (nI (24 * dd + i)))
          refine rq_st 122 rfl rfl ?_
          refine rq_getf 125 rfl hm3.1 rfl rfl ?_
          refine rq_st 126 rfl rfl ?_
          refine rq_st 127 rfl rfl ?_
          refine rq_ialN 128 rfl (hm3.arrE 10 (n := 3) (f := (upd (A 10) ss (nI l.length))) (by decide) rfl rfl rfl) (by omega) (by decide) rfl ?_
          rw [pk_us]
          refine rq_ic 129 (nI 1) rfl (by decide) rfl ?_
          refine rq_addN 130 rfl rfl ?_
          refine rq_iasN 131 rfl (hm3.arrE 10 (n := 3) (f := (upd (A 10) ss (nI l.length))) (by decide) rfl rfl rfl) (by omega) (by decide) rfl ?_
          have hm4 := hm3.r10 (g := upd (upd (A 10) ss (nI l.length)) ss (nI (l.length + 1)))
          rw [upd_upd] at hm4
          rw [show l.length + 1 = (l ++ [24 * dd + i]).length by rw [List.length_append, List.length_singleton]] at hm4
          rw [upd_upd]
          rw [show nI (l.length + 1) = nI (l ++ [24 * dd + i]).length by rw [List.length_append, List.length_singleton]]
          refine rq_incN 134 _ rfl rfl (nI_1 _) rfl rfl ?_
          refine rq_st 83 rfl rfl ?_
          exact ihm (i + 1) (l ++ [24 * dd + i]) _ _ (by omega) (by omega) (by rw [List.length_append, List.length_singleton]; omega) hfin (h11.up (by omega) (by omega)) (lstF_app (h := id) hl) hm4 ((hs2.set (mIn_k (by decide))).set (mIn_k (by decide)))
      refine rq_st 51 rfl rfl ?_
      refine rq_ic 52 (nI 4) rfl (by decide) rfl ?_
      refine rq_cmpf 55 rfl rfl (by rw [← Bool.not_eq_true, ma_cmpN (by omega) (by omega)]; show ¬ 4 ≤ dd; omega) ?_
      refine rq_st 56 rfl rfl ?_
      refine rq_getf 59 rfl hm2.1 rfl rfl ?_
      refine rq_ic 60 (nI 4) rfl (by decide) rfl ?_
      refine rq_st 61 rfl rfl ?_
      refine rq_mulN 62 rfl rfl ?_
      refine rq_st 63 rfl rfl ?_
      refine rq_addN 64 rfl rfl ?_
      refine rq_st 65 rfl rfl ?_
      refine rq_getf 68 rfl hm2.1 rfl rfl ?_
      refine rq_ic 69 (nI 4) rfl (by decide) rfl ?_
      refine rq_st 70 rfl rfl ?_
      refine rq_mulN 71 rfl rfl ?_
      refine rq_st 72 rfl rfl ?_
      refine rq_addN 73 rfl rfl ?_
      refine rq_ialN 74 rfl (hm2.arrE 5 (n := 16) (f := (A 5)) (by decide) rfl rfl rfl) (by omega) (by decide) rfl ?_
      rw [(hk.2 cc dd hc (by omega)).1]
      refine rq_iasN 75 rfl (hm2.arrE 9 (n := 12) (f := g9) (by decide) rfl rfl rfl) (by omega) (by decide) rfl ?_
      have hm3 := hm2.r9 (g := upd g9 (4 * ss + dd) (nI (kn cc dd)))
      refine rq_st 76 rfl rfl ?_
      refine rq_st 77 rfl rfl ?_
      refine rq_st 78 rfl rfl ?_
      refine rq_call [_, _, _] _ 81 rfl rfl rfl rfl rfl (Nat.le_of_ble_eq_true rfl) (cats rfl) (rcv_s rfl hm3.1) (p_X7_least d hm3 (hr := hr) hh cc hc dd (by omega)) rfl ?_
      refine rq_st 83 rfl rfl ?_
      exact inner (upd g9 (4 * ss + dd) (nI (kn cc dd))) (h9.up (by omega) (by omega)) (fun e he => by
        by_cases q : e = dd
        · rw [q]; exact pk_us
        · rw [pk_un (by omega)]; exact h9b e (by omega)) (kn cc dd - lsN hr cc dd 4) (lsN hr cc dd 4) _ g11 _ rfl hls (by omega) rfl h11 hl hm3 (hs2.set (mIn_k (by decide)))
  refine rq_st 1 rfl rfl ?_
  refine rq_st 2 rfl rfl ?_
  refine rq_ic 3 (nI 4) rfl (by decide) rfl ?_
  refine rq_call [_, _] _ 6 rfl rfl rfl rfl rfl (Nat.le_of_ble_eq_true rfl) (cats rfl) (rcv_n rfl) (p_X7_isIn d _ 4 (by decide) _) rfl ?_
  refine rq_ifB 9 rfl rfl (fun h6 => ?_) (fun h6 => ?_)
  · skip
    exact Jb (fun q => h6 q.1)
  · skip
    refine rq_st 10 rfl rfl ?_
    refine rq_ic 11 (nI 3) rfl (by decide) rfl ?_
    refine rq_call [_, _] _ 14 rfl rfl rfl rfl rfl (Nat.le_of_ble_eq_true rfl) (cats rfl) (rcv_n rfl) (p_X7_isIn d _ 3 (by decide) _) rfl ?_
    refine rq_ifB 17 rfl rfl (fun h14 => ?_) (fun h14 => ?_)
    · skip
      exact Jb (fun q => h14 q.2)
    · skip
      refine rq_ic 18 (nI 0) rfl (by decide) rfl ?_
      refine rq_st 22 rfl rfl ?_
      refine rq_puti 25 rfl hm.1 (Nat.le_of_ble_eq_true rfl) rfl rfl ?_
      obtain ⟨cc, hc, rfl⟩ := h6
      obtain ⟨ss, hs, rfl⟩ := h14
      have hm1 := hm.thr (nI 0)
      rw [← rA_id A] at hm1
      refine rq_st 26 rfl rfl ?_
      refine rq_getf 29 rfl hm1.1 rfl rfl ?_
      refine rq_ift rfl (by decide) ?_
      refine rq_st 35 rfl rfl ?_
      refine rq_getf 38 rfl hm1.1 rfl rfl ?_
      refine rq_st 39 rfl rfl ?_
      refine rq_st 40 rfl rfl ?_
      refine rq_iasN 41 rfl (hm1.arrE 8 (n := 3) (f := (A 8)) (by decide) rfl rfl rfl) (by omega) (by decide) rfl ?_
      have hm2 := hm1.r8 (g := upd (A 8) ss (nI cc))
      refine rq_st 42 rfl rfl ?_
      refine rq_getf 45 rfl hm2.1 rfl rfl ?_
      refine rq_st 46 rfl rfl ?_
      refine rq_ic 47 (nI 0) rfl (by decide) rfl ?_
      refine rq_iasN 48 rfl (hm2.arrE 10 (n := 3) (f := (A 10)) (by decide) rfl rfl rfl) (by omega) (by decide) rfl ?_
      have hm3 := hm2.r10 (g := upd (A 10) ss (nI 0))
      refine rq_ic 49 (nI 0) rfl (by decide) rfl ?_
      refine rq_st 50 rfl rfl ?_
      exact outer cc hc ss hs 4 0 (A 9) (A 11) _ _ (by omega) (fun _ _ => rfl) (fun e he => absurd he (Nat.not_lt_zero e)) (fun _ _ => rfl) (fun j hj => absurd hj (Nat.not_lt_zero j)) hm3 (((sm.rf.set (mIn_0 b)).set (mIn_k (by decide))).set (mIn_k (by decide)))
