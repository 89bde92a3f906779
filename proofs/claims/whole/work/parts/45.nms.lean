/-! the class: names -/
def nmp (G : ma_G) (a : Nat) (g : Nat → Int32) : Prop := ma_obj G a 3 = some [.ref (a + 1)] ∧ ma_ints G (a + 1) = some (12, g)
theorem nmp.sm {G G' : ma_G} {a : Nat} {g : Nat → Int32} {S : Nat → Prop} (h : nmp G a g) (hs : sm S G G') (h0 : ¬ S a) (h1 : ¬ S (a + 1)) : nmp G' a g := by
  refine ⟨?_, ?_⟩
  · rw [hs.obj h0]; exact h.1
  · rw [hs.ints h1]; exact h.2
theorem nmp.pg {G : ma_G} {a : Nat} {g : Nat → Int32} (h : nmp G a g) {g' : Nat → Int32} : nmp (G.set (a + 1) (.inl (0, 12, .inl g'))) a g' := by
  refine ⟨?_, ints_eq (ints_lt h.2)⟩
  rw [obj_ne (by omega)]; exact h.1
def nF (g : Nat → Int32) (f : Nat → Nat) : Prop := ∀ x, x < 12 → g x = nI (f x) ∧ f x < 12
def jn (f : Nat → Nat) (p q : Nat) : Nat → Nat := fun x => if f x = (if f p < f q then f q else f p) then (if f q < f p then f q else f p) else f x
theorem jn_lt {f : Nat → Nat} {p q x : Nat} (hp : f p < 12) (hq : f q < 12) (hx : f x < 12) : jn f p q x < 12 := by
  unfold jn
  repeat' split
  all_goals omega
theorem jn_tied {A : Nat → Nat → Int32} {kn : Nat → Nat → Nat} {c a : Nat} {f : Nat → Nat} {p q : Nat} (h : tied A kn c f) (ha : a < 96) (hp : par A kn c a p q) : tied A kn c (jn f p q) := by
  refine ⟨fun x hx => ?_, fun g hg x hx => ?_⟩
  · have := h.1 x hx
    unfold jn
    repeat' split
    all_goals omega
  · have e := hg a ha p q hp
    have ep := h.2 g hg p hp.2.1
    have eq := h.2 g hg q hp.2.2.1
    have ex := h.2 g hg x hx
    by_cases hx' : f x = (if f p < f q then f q else f p)
    · rw [show jn f p q x = (if f q < f p then f q else f p) from if_pos hx']
      rw [hx'] at ex
      rw [← ex]
      repeat' split
      all_goals first | rfl | (rw [ep, eq, e]) | (rw [eq, ep, e]) | omega
    · rw [show jn f p q x = f x from if_neg hx']
      exact ex
theorem jn_sat {A : Nat → Nat → Int32} {kn : Nat → Nat → Nat} {c m p q : Nat} {f : Nat → Nat} (h : sat A kn c f m) (hp : par A kn c m p q) : sat A kn c (jn f p q) (m + 1) := by
  refine sat_e (p := p) (q := q) (fun a ha x y hxy => ?_) hp ?_
  · have := h a ha x y hxy
    unfold jn
    rw [this]
  · unfold jn
    repeat' split
    all_goals omega
theorem sat_skip {A : Nat → Nat → Int32} {kn : Nat → Nat → Nat} {c m : Nat} {f : Nat → Nat} (h : sat A kn c f m) : ∀ k, (∀ a, m ≤ a → a < m + k → ¬ isK kn c a) → sat A kn c f (m + k) := by
  intro k
  induction k with
  | zero => intro _; exact h
  | succ k ih => intro hk; exact sat_n (ih (fun a h1 h2 => hk a h1 (by omega))) (fun q => hk (m + k) (by omega) (by omega) q.1)
theorem isK_no {kn : Nat → Nat → Nat} {c d a : Nat} (h1 : 24 * d + kn c d ≤ a) (h2 : a < 24 * d + 24) : ¬ isK kn c a := by
  unfold isK
  rw [show a / 24 = d by omega]
  omega
theorem isK_yes {kn : Nat → Nat → Nat} {c d i : Nat} (h1 : i < kn c d) (h2 : i < 24) : isK kn c (24 * d + i) := by
  unfold isK
  rw [show (24 * d + i) / 24 = d by omega]
  omega
theorem p_X3_of (d : Nat) {G : ma_G} {a : Nat} {g : Nat → Int32} (hm : nmp G a g) {f : Nat → Nat} (hg : nF g f) (p : Nat) (hp : p < 12) : Ca (d + 2) 30 [.ref a, .int (nI p)] G (.inl (some (.int (nI (f p)))), G, 0, 0) := by
  refine ca_of rfl ?_
  refine ru_st 1 rfl rfl ?_
  refine ru_call [_] _ 4 rfl rfl rfl rfl rfl (Nat.le_of_ble_eq_true rfl) (cats rfl) (rcv_n rfl) (p_X6_isPerson d _ _) rfl ?_
  refine ru_iff 7 rfl rfl (by rw [← Bool.not_eq_true, (bI_if _).1]; exact fun q => q (⟨p, hp, rfl⟩)) ?_
  refine ru_st 8 rfl rfl ?_
  refine ru_getf 11 rfl hm.1 rfl rfl ?_
  refine ru_st 12 rfl rfl ?_
  refine ru_ialN 13 rfl hm.2 (by omega) (by decide) rfl ?_
  rw [(hg p hp).1]
  refine ru_st 17 rfl rfl ?_
  exact ru_ire rfl rfl rfl rfl
def nmQ3 (G : ma_G) (a : Nat) (f : Nat → Nat) (r : Option Value) (G' : ma_G) : Prop := r = none ∧ sm (fun x => x = a + 1) G G' ∧ ∃ g', nmp G' a g' ∧ nF g' f
theorem p_X3_clear (d : Nat) {G : ma_G} {a : Nat} {g : Nat → Int32} (hm : nmp G a g) : Cq (d + 1) 28 [.ref a] G (nmQ3 G a id) := by
  refine cq_of rfl ?_
  have loop : ∀ (m p : Nat) (g2 : Nat → Int32) (G2 : ma_G), p + m = 12 → (∀ x, x < p → g2 x = nI x) → nmp G2 a g2 → sm (fun x => x = a + 1) G G2 → Rq d M_X3_clear 2 [some (.ref a), some (.int (nI p))] [] G2 (Qr (nmQ3 G a id)) := by
    intro m
    induction m with
    | zero =>
      intro p g2 G2 hp hg2 hm2 hs2
      refine rq_st 3 rfl rfl ?_
      refine rq_bp 5 (nI 12) rfl (by decide) rfl ?_
      refine rq_cmpt rfl ((ma_cmpN (by omega) (by omega)).mpr (by show 12 ≤ p; omega)) ?_
      exact rq_vret rfl rfl ⟨rfl, hs2, g2, hm2, fun x hx => ⟨hg2 x (by omega), hx⟩⟩
    | succ m ih =>
      intro p g2 G2 hp hg2 hm2 hs2
      refine rq_st 3 rfl rfl ?_
      refine rq_bp 5 (nI 12) rfl (by decide) rfl ?_
      refine rq_cmpf 8 rfl rfl (by rw [← Bool.not_eq_true, ma_cmpN (by omega) (by omega)]; show ¬ 12 ≤ p; omega) ?_
      refine rq_st 9 rfl rfl ?_
      refine rq_getf 12 rfl hm2.1 rfl rfl ?_
      refine rq_st 13 rfl rfl ?_
      refine rq_st 14 rfl rfl ?_
      refine rq_iasN 15 rfl hm2.2 (by omega) (by decide) rfl ?_
      refine rq_incN 18 _ rfl rfl (nI_1 _) rfl rfl ?_
      refine rq_st 2 rfl rfl ?_
      exact ih (p + 1) _ _ (by omega) (fun x hx => by
        by_cases e : x = p
        · rw [e]; exact pk_us
        · rw [pk_un e]; exact hg2 x (by omega)) hm2.pg (hs2.set rfl)
  refine rq_ic 1 (nI 0) rfl (by decide) rfl ?_
  refine rq_st 2 rfl rfl ?_
  exact loop 12 0 g G (by omega) (fun x hx => absurd hx (Nat.not_lt_zero x)) hm sm.rf
theorem p_X3_join (d : Nat) {G : ma_G} {a : Nat} {g : Nat → Int32} (hm : nmp G a g) {f : Nat → Nat} (hg : nF g f) (p : Nat) (hp : p < 12) (q : Nat) (hq : q < 12) : Cq (d + 3) 29 [.ref a, .int (nI p), .int (nI q)] G (nmQ3 G a (jn f p q)) := by
  refine cq_of rfl ?_
  have hfp := (hg p hp).2
  have hfq := (hg q hq).2
  have loop : ∀ (m r : Nat) (g2 : Nat → Int32) (G2 : ma_G), r + m = 12 → (∀ x, x < 12 → g2 x = nI (if x < r then jn f p q x else f x)) → nmp G2 a g2 → sm (fun x => x = a + 1) G G2 → Rq (d + 2) M_X3_join 32 [some (.ref a), some (.int (nI p)), some (.int (nI q)), some (.int (nI (if f q < f p then f q else f p))), some (.int (nI (if f p < f q then f q else f p))), some (.int (nI r))] [] G2 (Qr (nmQ3 G a (jn f p q))) := by
    intro m
    induction m with
    | zero =>
      intro r g2 G2 hr hg2 hm2 hs2
      refine rq_st 34 rfl rfl ?_
      refine rq_bp 36 (nI 12) rfl (by decide) rfl ?_
      refine rq_cmpt rfl ((ma_cmpN (by omega) (by omega)).mpr (by show 12 ≤ r; omega)) ?_
      exact rq_vret rfl rfl ⟨rfl, hs2, g2, hm2, fun x hx => ⟨by rw [hg2 x hx, if_pos (by omega)], jn_lt hfp hfq (hg x hx).2⟩⟩
    | succ m ih =>
      intro r g2 G2 hr hg2 hm2 hs2
      refine rq_st 34 rfl rfl ?_
      refine rq_bp 36 (nI 12) rfl (by decide) rfl ?_
      refine rq_cmpf 39 rfl rfl (by rw [← Bool.not_eq_true, ma_cmpN (by omega) (by omega)]; show ¬ 12 ≤ r; omega) ?_
      refine rq_st 40 rfl rfl ?_
      refine rq_getf 43 rfl hm2.1 rfl rfl ?_
      refine rq_st 45 rfl rfl ?_
      refine rq_ialN 46 rfl hm2.2 (by omega) (by decide) rfl ?_
      rw [hg2 r (by omega), if_neg (show ¬ r < r by omega)]
      refine rq_st 48 rfl rfl ?_
      have hfr := (hg r (by omega)).2
      have hmx : (if f p < f q then f q else f p) < 12 := by split <;> omega
      refine rq_cmpN 51 rfl rfl (by omega) (by omega) (fun h48 => ?_) (fun h48 => ?_)
      · dsimp only [cN] at h48
        refine rq_incN 62 _ rfl rfl (nI_1 _) rfl rfl ?_
        refine rq_st 32 rfl rfl ?_
        first
          | exact ih (r + 1) _ _ (by omega) (fun x hx => by
              by_cases e : x = r
              · rw [e, pk_us, if_pos (show r < r + 1 by omega), show jn f p q r = (if f q < f p then f q else f p) from if_pos h48]
              · rw [pk_un e, hg2 x hx]; by_cases e2 : x < r
                · rw [if_pos e2, if_pos (by omega)]
                · rw [if_neg e2, if_neg (by omega)]) hm2.pg (hs2.set rfl)
          | exact ih (r + 1) _ _ (by omega) (fun x hx => by
              by_cases e : x = r
              · rw [e, hg2 r (by omega), if_neg (show ¬ r < r by omega), if_pos (show r < r + 1 by omega), show jn f p q r = f r from if_neg h48]
              · rw [hg2 x hx]; by_cases e2 : x < r
                · rw [if_pos e2, if_pos (by omega)]
                · rw [if_neg e2, if_neg (by omega)]) hm2 hs2
      · dsimp only [cN] at h48
        replace h48 := Classical.byContradiction h48
        refine rq_st 52 rfl rfl ?_
        refine rq_getf 55 rfl hm2.1 rfl rfl ?_
        refine rq_st 57 rfl rfl ?_
        refine rq_st 58 rfl rfl ?_
        refine rq_iasN 59 rfl hm2.2 (by omega) (by decide) rfl ?_
        refine rq_incN 62 _ rfl rfl (nI_1 _) rfl rfl ?_
        refine rq_st 32 rfl rfl ?_
        first
          | exact ih (r + 1) _ _ (by omega) (fun x hx => by
              by_cases e : x = r
              · rw [e, pk_us, if_pos (show r < r + 1 by omega), show jn f p q r = (if f q < f p then f q else f p) from if_pos h48]
              · rw [pk_un e, hg2 x hx]; by_cases e2 : x < r
                · rw [if_pos e2, if_pos (by omega)]
                · rw [if_neg e2, if_neg (by omega)]) hm2.pg (hs2.set rfl)
          | exact ih (r + 1) _ _ (by omega) (fun x hx => by
              by_cases e : x = r
              · rw [e, hg2 r (by omega), if_neg (show ¬ r < r by omega), if_pos (show r < r + 1 by omega), show jn f p q r = f r from if_neg h48]
              · rw [hg2 x hx]; by_cases e2 : x < r
                · rw [if_pos e2, if_pos (by omega)]
                · rw [if_neg e2, if_neg (by omega)]) hm2 hs2
  refine rq_st 1 rfl rfl ?_
  refine rq_st 2 rfl rfl ?_
  refine rq_call [_, _] _ 5 rfl rfl rfl rfl rfl (Nat.le_of_ble_eq_true rfl) (cats rfl) (rcv_s rfl hm.1) (p_X3_of d hm hg p hp) rfl ?_
  refine rq_st 6 rfl rfl ?_
  refine rq_st 7 rfl rfl ?_
  refine rq_call [_, _] _ 10 rfl rfl rfl rfl rfl (Nat.le_of_ble_eq_true rfl) (cats rfl) (rcv_s rfl hm.1) (p_X3_of d hm hg q hq) rfl ?_
  refine rq_st 13 rfl rfl ?_
  rw [nI_min (by omega) (by omega)]
  refine rq_st 14 rfl rfl ?_
  refine rq_st 15 rfl rfl ?_
  refine rq_st 16 rfl rfl ?_
  refine rq_call [_, _] _ 19 rfl rfl rfl rfl rfl (Nat.le_of_ble_eq_true rfl) (cats rfl) (rcv_s rfl hm.1) (p_X3_of d hm hg p hp) rfl ?_
  refine rq_st 20 rfl rfl ?_
  refine rq_st 21 rfl rfl ?_
  refine rq_call [_, _] _ 24 rfl rfl rfl rfl rfl (Nat.le_of_ble_eq_true rfl) (cats rfl) (rcv_s rfl hm.1) (p_X3_of d hm hg q hq) rfl ?_
  refine rq_st 27 rfl rfl ?_
  rw [nI_max (by omega) (by omega)]
  refine rq_st 29 rfl rfl ?_
  refine rq_ic 30 (nI 0) rfl (by decide) rfl ?_
  refine rq_st 32 rfl rfl ?_
  exact loop 12 0 g G (by omega) (fun x hx => by rw [if_neg (by omega)]; exact (hg x hx).1) hm sm.rf
