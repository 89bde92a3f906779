/-! the names of persons: what they are, and that there is but one such table -/
def sm4 (A : Nat → Nat → Int32) (kn : Nat → Nat → Nat) (c a : Nat) : Prop := isK kn c a ∧ A 3 a = nI 4
def par (A : Nat → Nat → Int32) (kn : Nat → Nat → Nat) (c a p q : Nat) : Prop := sm4 A kn c a ∧ p < 12 ∧ q < 12 ∧ A 4 (4 * a) = nI p ∧ A 4 (4 * a + 1) = nI q
def wfS (A : Nat → Nat → Int32) (kn : Nat → Nat → Nat) (c : Nat) : Prop := ∀ a, a < 96 → sm4 A kn c a → ∃ p q, par A kn c a p q
def sat (A : Nat → Nat → Int32) (kn : Nat → Nat → Nat) (c : Nat) (f : Nat → Nat) (m : Nat) : Prop := ∀ a, a < m → ∀ p q, par A kn c a p q → f p = f q
def tied (A : Nat → Nat → Int32) (kn : Nat → Nat → Nat) (c : Nat) (f : Nat → Nat) : Prop := (∀ p, p < 12 → f p ≤ p) ∧ ∀ h : Nat → Nat, sat A kn c h 96 → ∀ p, p < 12 → h (f p) = h p
def isNm (A : Nat → Nat → Int32) (kn : Nat → Nat → Nat) (c : Nat) (f : Nat → Nat) : Prop := tied A kn c f ∧ sat A kn c f 96
theorem isNm_one {A : Nat → Nat → Int32} {kn : Nat → Nat → Nat} {c : Nat} {f f' : Nat → Nat} (h : isNm A kn c f) (h' : isNm A kn c f') (p : Nat) (hp : p < 12) : f p = f' p := by
  have a1 := h.1.2 f' h'.2 p hp
  have a2 := h'.1.2 f h.2 p hp
  have b1 := h.1.1 p hp
  have b2 := h'.1.1 p hp
  have c1 := h'.1.1 (f p) (by omega)
  have c2 := h.1.1 (f' p) (by omega)
  omega
def s12 (f : Nat → Nat) : Nat := f 0 + f 1 + f 2 + f 3 + f 4 + f 5 + f 6 + f 7 + f 8 + f 9 + f 10 + f 11
theorem s12_lt {f f' : Nat → Nat} (h : ∀ p, p < 12 → f' p ≤ f p) {p : Nat} (hp : p < 12) (hlt : f' p < f p) : s12 f' < s12 f := by
  have h0 := h 0 (by decide)
  have h1 := h 1 (by decide)
  have h2 := h 2 (by decide)
  have h3 := h 3 (by decide)
  have h4 := h 4 (by decide)
  have h5 := h 5 (by decide)
  have h6 := h 6 (by decide)
  have h7 := h 7 (by decide)
  have h8 := h 8 (by decide)
  have h9 := h 9 (by decide)
  have h10 := h 10 (by decide)
  have h11 := h 11 (by decide)
  unfold s12
  rcases (show p = 0 ∨ p = 1 ∨ p = 2 ∨ p = 3 ∨ p = 4 ∨ p = 5 ∨ p = 6 ∨ p = 7 ∨ p = 8 ∨ p = 9 ∨ p = 10 ∨ p = 11 by omega) with rfl | rfl | rfl | rfl | rfl | rfl | rfl | rfl | rfl | rfl | rfl | rfl <;> omega
def fup (f : Nat → Nat) (p q low : Nat) : Nat → Nat := fun x => if x = p ∨ x = q then low else f x
theorem fup_le {f : Nat → Nat} {p q low : Nat} (h1 : low ≤ f p) (h2 : low ≤ f q) (x : Nat) : fup f p q low x ≤ f x := by
  unfold fup
  split
  · rename_i h
    rcases h with rfl | rfl
    · exact h1
    · exact h2
  · exact Nat.le_refl _
theorem fup_tied {A : Nat → Nat → Int32} {kn : Nat → Nat → Nat} {c a : Nat} {f : Nat → Nat} {p q low : Nat} (h : tied A kn c f) (ha : a < 96) (hp : par A kn c a p q) (h1 : low ≤ f p) (h2 : low ≤ f q) (hl : low = f p ∨ low = f q) : tied A kn c (fup f p q low) := by
  refine ⟨fun x hx => Nat.le_trans (fup_le h1 h2 x) (h.1 x hx), fun g hg x hx => ?_⟩
  have e := hg a ha p q hp
  have ep := h.2 g hg p hp.2.1
  have eq := h.2 g hg q hp.2.2.1
  unfold fup
  split
  · rename_i hx'
    rcases hx' with rfl | rfl
    · rcases hl with rfl | rfl
      · exact ep
      · rw [eq, e]
    · rcases hl with rfl | rfl
      · rw [ep, e]
      · exact eq
  · exact h.2 g hg x hx
theorem fup_upd {f : Nat → Nat} {g : Nat → Int32} {p q low : Nat} (h : ∀ x, x < 12 → g x = nI (f x)) : ∀ x, x < 12 → upd (upd g p (nI low)) q (nI low) x = nI (fup f p q low x) := by
  intro x hx
  unfold upd fup
  by_cases h1 : x = q
  · simp [h1]
  · by_cases h2 : x = p
    · simp [h1, h2]
    · simp [h1, h2, h x hx]
theorem sat_0 {A : Nat → Nat → Int32} {kn : Nat → Nat → Nat} {c : Nat} {f : Nat → Nat} : sat A kn c f 0 := fun a h => absurd h (Nat.not_lt_zero a)
theorem sat_n {A : Nat → Nat → Int32} {kn : Nat → Nat → Nat} {c m : Nat} {f : Nat → Nat} (h : sat A kn c f m) (hn : ¬ sm4 A kn c m) : sat A kn c f (m + 1) := fun a ha p q hp => by
  by_cases e : a = m
  · subst e; exact absurd hp.1 hn
  · exact h a (by omega) p q hp
theorem sat_e {A : Nat → Nat → Int32} {kn : Nat → Nat → Nat} {c m p q : Nat} {f : Nat → Nat} (h : sat A kn c f m) (hp : par A kn c m p q) (he : f p = f q) : sat A kn c f (m + 1) := fun a ha x y hxy => by
  by_cases e : a = m
  · subst e
    have e1 := (nI_eq (by have := hp.2.1; omega) (by have := hxy.2.1; omega)).mp (hp.2.2.2.1.symm.trans hxy.2.2.2.1)
    have e2 := (nI_eq (by have := hp.2.2.1; omega) (by have := hxy.2.2.1; omega)).mp (hp.2.2.2.2.symm.trans hxy.2.2.2.2)
    rw [← e1, ← e2]; exact he
  · exact h a (by omega) x y hxy
theorem va_up_id {α : Type} (f : Nat → α) (k : Nat) : va_up f k (f k) = f := by
  funext j
  unfold va_up
  split
  · rename_i h; rw [h]
  · rfl
theorem mdl.ar12 {b : Nat} {A : Nat → Nat → Int32} {g : Nat → Int32} {t cn lt gd : Int32} {G : ma_G} (h : mdl b (va_up A 12 g) t cn lt gd G) : ma_ints G (b + 13) = some (12, g) := by
  have := h.arr 12 (n := 12) (by decide) rfl rfl
  rw [va_up_self] at this
  exact this
theorem mdl.arU {b : Nat} {A : Nat → Nat → Int32} {g : Nat → Int32} {t cn lt gd : Int32} {G : ma_G} (h : mdl b (va_up A 12 g) t cn lt gd G) (k : Nat) (hk : k < 12) {x n : Nat} (hx : b + 1 + k = x) (hn : mLen k = n) : ma_ints G x = some (n, A k) := by
  have := h.arr k (by omega) hx hn
  rw [va_up_ne _ _ (by omega)] at this
  exact this
theorem mdl.ap12 {b : Nat} {A : Nat → Nat → Int32} {g g2 : Nat → Int32} {t cn lt gd : Int32} {G : ma_G} (h : mdl b (va_up A 12 g) t cn lt gd G) : mdl b (va_up A 12 g2) t cn lt gd (G.set (b + 13) (.inl (0, 12, .inl g2))) := by
  have := h.aput 12 (n := 12) (g := g2) (by decide) rfl rfl
  rw [bx_uu] at this
  exact this
theorem mIn_13 (b : Nat) : mIn b (b + 13) := ⟨by omega, by omega⟩
/-- what 'names' leaves -/
def nmQ (b : Nat) (A : Nat → Nat → Int32) (kn : Nat → Nat → Nat) (c : Nat) (t cn lt gd : Int32) (G : ma_G) (v : Option Value) (G' : ma_G) : Prop := v = none ∧ ∃ (f : Nat → Nat) (g : Nat → Int32), (∀ p, p < 12 → g p = nI (f p)) ∧ isNm A kn c f ∧ mdl b (va_up A 12 g) t cn lt gd G' ∧ sm (mIn b) G G'
theorem p_X7_names (d : Nat) {b : Nat} {A : Nat → Nat → Int32} {t cn lt gd : Int32} {G : ma_G} (hm : mdl b A t cn lt gd G) {n : Nat → Nat} {kn : Nat → Nat → Nat} (hk : mKn A n kn) (c : Nat) (hc : c < 4) (hwf : wfS A kn c) : Cq (d + 1) 122 [.ref b, .int (nI c)] G (nmQ b A kn c t cn lt gd G) := by
  refine cq_of rfl ?_
  have exitL : ∀ (f : Nat → Nat) (g : Nat → Int32) (G2 : ma_G) (o3 o4 o5 o6 o7 : Option Value), (∀ p, p < 12 → g p = nI (f p)) → tied A kn c f → sat A kn c f 96 → mdl b (va_up A 12 g) t cn lt gd G2 → sm (mIn b) G G2 → Rq d M_X7_names 23 [some (.ref b), some (.int (nI c)), some (.int (nI 0)), o3, o4, o5, o6, o7] [] G2 (Qr (nmQ b A kn c t cn lt gd G)) := by
    intro f g G2 o3 o4 o5 o6 o7 hg ht hsat hm2 hs2
    refine rq_st 24 rfl rfl ?_
    refine rq_ift rfl (by decide) ?_
    exact rq_vret rfl rfl ⟨rfl, f, g, hg, ⟨ht, hsat⟩, hm2, hs2⟩
  have outer : ∀ (N : Nat) (f : Nat → Nat) (g : Nat → Int32) (G2 : ma_G) (o3 o4 o5 o6 o7 : Option Value), s12 f < N → (∀ p, p < 12 → g p = nI (f p)) → tied A kn c f → mdl b (va_up A 12 g) t cn lt gd G2 → sm (mIn b) G G2 → Rq d M_X7_names 23 [some (.ref b), some (.int (nI c)), some (.int (nI 1)), o3, o4, o5, o6, o7] [] G2 (Qr (nmQ b A kn c t cn lt gd G)) := by
    intro N
    induction N with
    | zero => intro f g G2 o3 o4 o5 o6 o7 h; omega
    | succ N ih =>
      have inner : ∀ (m a : Nat) (f : Nat → Nat) (g : Nat → Int32) (G2 : ma_G) (v : Int32) (o4 o5 o6 o7 : Option Value), a + m = 96 → (∀ p, p < 12 → g p = nI (f p)) → tied A kn c f → ((v = nI 0 ∧ sat A kn c f a ∧ s12 f < N + 1) ∨ (v = nI 1 ∧ s12 f < N)) → mdl b (va_up A 12 g) t cn lt gd G2 → sm (mIn b) G G2 → Rq d M_X7_names 31 [some (.ref b), some (.int (nI c)), some (.int v), some (.int (nI a)), o4, o5, o6, o7] [] G2 (Qr (nmQ b A kn c t cn lt gd G)) := by
        intro m
        induction m with
        | zero =>
          intro a f g G2 v o4 o5 o6 o7 ha hg ht hv hm2 hs2
          refine rq_st 32 rfl rfl ?_
          refine rq_bp 34 (nI 96) rfl (by decide) rfl ?_
          refine rq_cmpt rfl ((ma_cmpN (by omega) (by omega)).mpr (by show 96 ≤ a; omega)) ?_
          refine rq_st 23 rfl rfl ?_
          rcases hv with ⟨rfl, h1, -⟩ | ⟨rfl, h1⟩
          · exact exitL f g G2 _ _ _ _ _ hg ht (by rw [show (96 : Nat) = a by omega]; exact h1) hm2 hs2
          · exact ih f g G2 _ _ _ _ _ h1 hg ht hm2 hs2
        | succ m ihm =>
          intro a f g G2 v o4 o5 o6 o7 ha hg ht hv hm2 hs2
          have K : ∀ (f : Nat → Nat) (g : Nat → Int32) (G2 : ma_G) (v : Int32) (o4 o5 o6 o7 : Option Value), (∀ p, p < 12 → g p = nI (f p)) → tied A kn c f → ((v = nI 0 ∧ sat A kn c f (a + 1) ∧ s12 f < N + 1) ∨ (v = nI 1 ∧ s12 f < N)) → mdl b (va_up A 12 g) t cn lt gd G2 → sm (mIn b) G G2 → Rq d M_X7_names 187 [some (.ref b), some (.int (nI c)), some (.int v), some (.int (nI a)), o4, o5, o6, o7] [] G2 (Qr (nmQ b A kn c t cn lt gd G)) := by
            intro f g G2 v o4 o5 o6 o7 hg ht hv hm2 hs2
            refine rq_incN 190 _ rfl rfl (nI_1 _) rfl rfl ?_
            refine rq_st 31 rfl rfl ?_
            exact ihm (a + 1) f g G2 _ _ _ _ _ (by omega) hg ht hv hm2 hs2
          have J72 : ∀ v' : Int32, v' = bI (sm4 A kn c a) → Rq d M_X7_names 72 [some (.ref b), some (.int (nI c)), some (.int v), some (.int (nI a)), o4, o5, o6, o7] [.int v'] G2 (Qr (nmQ b A kn c t cn lt gd G)) := by
            intro v' hv'
            subst hv'
            by_cases hn : sm4 A kn c a
            · obtain ⟨p, q, hpar⟩ := hwf a (by omega) hn
              obtain ⟨-, hp, hq, ep, eq⟩ := id hpar
              have J165 : ∀ (low : Nat) (o4 o7 : Option Value) (hl1 : low ≤ f p) (hl2 : low ≤ f q) (hl3 : low = f p ∨ low = f q) (z : Nat) (hl4 : z < 12) (hl5 : fup f p q low z < f z), Rq d M_X7_names 165 [some (.ref b), some (.int (nI c)), some (.int v), some (.int (nI a)), o4, some (.int (nI p)), some (.int (nI q)), o7] [.int (nI low)] G2 (Qr (nmQ b A kn c t cn lt gd G)) := by
                intro low o4 o7 hl1 hl2 hl3 z hl4 hl5
                refine rq_st 167 rfl rfl ?_
                refine rq_st 168 rfl rfl ?_
                refine rq_getf 171 rfl hm2.1 rfl rfl ?_
                refine rq_st 173 rfl rfl ?_
                refine rq_st 175 rfl rfl ?_
                refine rq_iasN 176 rfl hm2.ar12 (by omega) (by decide) rfl ?_
                refine rq_st 177 rfl rfl ?_
                refine rq_getf 180 rfl (hm2.ap12 (g2 := upd g p (nI low))).1 rfl rfl ?_
                refine rq_st 182 rfl rfl ?_
                refine rq_st 184 rfl rfl ?_
                refine rq_iasN 185 rfl (hm2.ap12 (g2 := upd g p (nI low))).ar12 (by omega) (by decide) rfl ?_
                refine rq_ic 186 (nI 1) rfl (by decide) rfl ?_
                refine rq_st 187 rfl rfl ?_
                exact K _ _ _ _ _ _ _ _ (fup_upd hg) (fup_tied ht (by omega) hpar hl1 hl2 hl3) (Or.inr ⟨rfl, by have := s12_lt (fun x _ => fup_le hl1 hl2 x) hl4 hl5; rcases hv with h | h <;> omega⟩) hm2.ap12.ap12 ((hs2.set (mIn_13 b)).set (mIn_13 b))
              refine rq_st 74 rfl rfl ?_
              refine rq_st 76 rfl rfl ?_
              refine rq_iff 79 rfl rfl (by rw [← Bool.not_eq_true, (bI_if _).1]; exact fun q => q hn) ?_
              refine rq_st 80 rfl rfl ?_
              refine rq_getf 83 rfl hm2.1 rfl rfl ?_
              refine rq_ic 84 (nI 4) rfl (by decide) rfl ?_
              refine rq_st 85 rfl rfl ?_
              refine rq_mulN 86 rfl rfl ?_
              refine rq_ialN 87 rfl (hm2.arU 4 (n := 384) (by decide) rfl rfl) (by omega) (by decide) rfl ?_
              rw [ep]
              refine rq_st 91 rfl rfl ?_
              refine rq_st 93 rfl rfl ?_
              refine rq_st 95 rfl rfl ?_
              refine rq_iff 98 rfl rfl (by rw [← Bool.not_eq_true, (bI_if _).1]; exact fun q => q hn) ?_
              refine rq_st 99 rfl rfl ?_
              refine rq_getf 102 rfl hm2.1 rfl rfl ?_
              refine rq_ic 103 (nI 4) rfl (by decide) rfl ?_
              refine rq_st 104 rfl rfl ?_
              refine rq_mulN 105 rfl rfl ?_
              refine rq_ic 106 (nI 1) rfl (by decide) rfl ?_
              refine rq_addN 107 rfl rfl ?_
              refine rq_ialN 108 rfl (hm2.arU 4 (n := 384) (by decide) rfl rfl) (by omega) (by decide) rfl ?_
              rw [eq]
              refine rq_st 112 rfl rfl ?_
              refine rq_st 114 rfl rfl ?_
              refine rq_st 115 rfl rfl ?_
              refine rq_getf 118 rfl hm2.1 rfl rfl ?_
              refine rq_st 120 rfl rfl ?_
              refine rq_ialN 121 rfl hm2.ar12 (by omega) (by decide) rfl ?_
              rw [hg p hp]
              refine rq_st 122 rfl rfl ?_
              refine rq_getf 125 rfl hm2.1 rfl rfl ?_
              refine rq_st 127 rfl rfl ?_
              refine rq_ialN 128 rfl hm2.ar12 (by omega) (by decide) rfl ?_
              rw [hg q hq]
              have hfp := ht.1 p hp
              have hfq := ht.1 q hq
              refine rq_cmpN 131 rfl rfl (by omega) (by omega) (fun h128 => ?_) (fun h128 => ?_)
              · dsimp only [cN] at h128
                exact K f g G2 _ _ _ _ _ hg ht (hv.elim (fun h => Or.inl ⟨h.1, sat_e h.2.1 hpar h128, h.2.2⟩) Or.inr) hm2 hs2
              · dsimp only [cN] at h128
                refine rq_st 132 rfl rfl ?_
                refine rq_getf 135 rfl hm2.1 rfl rfl ?_
                refine rq_st 137 rfl rfl ?_
                refine rq_ialN 138 rfl hm2.ar12 (by omega) (by decide) rfl ?_
                rw [hg p hp]
                refine rq_st 139 rfl rfl ?_
                refine rq_getf 142 rfl hm2.1 rfl rfl ?_
                refine rq_st 144 rfl rfl ?_
                refine rq_ialN 145 rfl hm2.ar12 (by omega) (by decide) rfl ?_
                rw [hg q hq]
                refine rq_cmpN 148 rfl rfl (by omega) (by omega) (fun h145 => ?_) (fun h145 => ?_)
                · dsimp only [cN] at h145
                  refine rq_st 159 rfl rfl ?_
                  refine rq_getf 162 rfl hm2.1 rfl rfl ?_
                  refine rq_st 164 rfl rfl ?_
                  refine rq_ialN 165 rfl hm2.ar12 (by omega) (by decide) rfl ?_
                  rw [hg q hq]
                  first | exact J165 (f q) _ _ (by omega) (by omega) (Or.inr rfl) p hp (by rw [show fup f p q (f q) p = f q from if_pos (Or.inl rfl)]; omega) | exact J165 (f p) _ _ (by omega) (by omega) (Or.inl rfl) q hq (by rw [show fup f p q (f p) q = f p from if_pos (Or.inr rfl)]; omega)
                · dsimp only [cN] at h145
                  refine rq_st 149 rfl rfl ?_
                  refine rq_getf 152 rfl hm2.1 rfl rfl ?_
                  refine rq_st 154 rfl rfl ?_
                  refine rq_ialN 155 rfl hm2.ar12 (by omega) (by decide) rfl ?_
                  rw [hg p hp]
                  refine rq_st 165 rfl rfl ?_
                  first | exact J165 (f q) _ _ (by omega) (by omega) (Or.inr rfl) p hp (by rw [show fup f p q (f q) p = f q from if_pos (Or.inl rfl)]; omega) | exact J165 (f p) _ _ (by omega) (by omega) (Or.inl rfl) q hq (by rw [show fup f p q (f p) q = f p from if_pos (Or.inr rfl)]; omega)
            · skip
              refine rq_st 74 rfl rfl ?_
              refine rq_st 76 rfl rfl ?_
              refine rq_ift rfl ((bI_if _).1.mpr hn) ?_
              refine rq_ic 91 (nI 0) rfl (by decide) rfl ?_
              refine rq_st 93 rfl rfl ?_
              refine rq_st 95 rfl rfl ?_
              refine rq_ift rfl ((bI_if _).1.mpr hn) ?_
              refine rq_ic 112 (nI 0) rfl (by decide) rfl ?_
              refine rq_st 114 rfl rfl ?_
              refine rq_st 115 rfl rfl ?_
              refine rq_getf 118 rfl hm2.1 rfl rfl ?_
              refine rq_st 120 rfl rfl ?_
              refine rq_ialN 121 rfl hm2.ar12 (by decide) (by decide) rfl ?_
              refine rq_st 122 rfl rfl ?_
              refine rq_getf 125 rfl hm2.1 rfl rfl ?_
              refine rq_st 127 rfl rfl ?_
              refine rq_ialN 128 rfl hm2.ar12 (by decide) (by decide) rfl ?_
              refine rq_cmpt rfl (by simp [ma_cmp]) ?_
              exact K f g G2 _ _ _ _ _ hg ht (hv.elim (fun h => Or.inl ⟨h.1, sat_n h.2.1 hn, h.2.2⟩) Or.inr) hm2 hs2
          refine rq_st 32 rfl rfl ?_
          refine rq_bp 34 (nI 96) rfl (by decide) rfl ?_
          refine rq_cmpf 37 rfl rfl (by rw [← Bool.not_eq_true, ma_cmpN (by omega) (by omega)]; show ¬ 96 ≤ a; omega) ?_
          refine rq_st 38 rfl rfl ?_
          refine rq_bp 40 (nI 24) rfl (by decide) rfl ?_
          refine rq_remN 41 rfl (by omega) (by decide) (by decide) rfl ?_
          refine rq_st 42 rfl rfl ?_
          refine rq_getf 45 rfl hm2.1 rfl rfl ?_
          refine rq_ic 46 (nI 4) rfl (by decide) rfl ?_
          refine rq_st 47 rfl rfl ?_
          refine rq_mulN 48 rfl rfl ?_
          refine rq_st 49 rfl rfl ?_
          refine rq_bp 51 (nI 24) rfl (by decide) rfl ?_
          refine rq_divN 52 rfl (by omega) (by decide) (by decide) rfl ?_
          refine rq_addN 53 rfl rfl ?_
          refine rq_ialN 54 rfl (hm2.arU 5 (n := 16) (by decide) rfl rfl) (by omega) (by decide) rfl ?_
          rw [(hk.2 c (a / 24) hc (by omega)).1]
          have hle := hk.le hc (show a / 24 < 4 by omega)
          refine rq_cmpN 57 rfl rfl (by omega) (by omega) (fun h54 => ?_) (fun h54 => ?_)
          · dsimp only [cN] at h54
            have hz : ¬ (sm4 A kn c a) := fun q => absurd (show a % 24 < kn c (a / 24) from q.1) (by omega)
            refine rq_ic 72 (nI 0) rfl (by decide) rfl ?_
            exact J72 _ (by first | exact (bI_t hz).symm | exact (bI_f hz).symm)
          · dsimp only [cN] at h54
            refine rq_st 58 rfl rfl ?_
            refine rq_getf 61 rfl hm2.1 rfl rfl ?_
            refine rq_st 62 rfl rfl ?_
            refine rq_ialN 63 rfl (hm2.arU 3 (n := 96) (by decide) rfl rfl) (by omega) (by decide) rfl ?_
            refine rq_ic 64 (nI 4) rfl (by decide) rfl ?_
            refine rq_cmpI 67 rfl rfl (fun h64 => ?_) (fun h64 => ?_)
            · dsimp only [cI] at h64
              have hz : ¬ (sm4 A kn c a) := fun q => h64 q.2
              refine rq_ic 72 (nI 0) rfl (by decide) rfl ?_
              exact J72 _ (by first | exact (bI_t hz).symm | exact (bI_f hz).symm)
            · dsimp only [cI] at h64
              have hz : (sm4 A kn c a) := ⟨by show a % 24 < kn c (a / 24); omega, Classical.byContradiction h64⟩
              refine rq_ic 68 (nI 1) rfl (by decide) rfl ?_
              refine rq_st 72 rfl rfl ?_
              exact J72 _ (by first | exact (bI_t hz).symm | exact (bI_f hz).symm)
      intro f g G2 o3 o4 o5 o6 o7 hlt hg ht hm2 hs2
      refine rq_st 24 rfl rfl ?_
      refine rq_iff 27 rfl rfl (by decide) ?_
      refine rq_ic 28 (nI 0) rfl (by decide) rfl ?_
      refine rq_st 29 rfl rfl ?_
      refine rq_ic 30 (nI 0) rfl (by decide) rfl ?_
      refine rq_st 31 rfl rfl ?_
      exact inner 96 0 f g G2 _ _ _ _ _ (by omega) hg ht (Or.inl ⟨rfl, sat_0, hlt⟩) hm2 hs2
  have init : ∀ (m p : Nat) (g : Nat → Int32) (G2 : ma_G), p + m = 12 → (∀ x, x < p → g x = nI x) → mdl b (va_up A 12 g) t cn lt gd G2 → sm (mIn b) G G2 → Rq d M_X7_names 2 [some (.ref b), some (.int (nI c)), some (.int (nI p)), none, none, none, none, none] [] G2 (Qr (nmQ b A kn c t cn lt gd G)) := by
    intro m
    induction m with
    | zero =>
      intro p g G2 hp hg hm2 hs2
      refine rq_st 3 rfl rfl ?_
      refine rq_bp 5 (nI 12) rfl (by decide) rfl ?_
      refine rq_cmpt rfl ((ma_cmpN (by omega) (by omega)).mpr (by show 12 ≤ p; omega)) ?_
      refine rq_ic 22 (nI 1) rfl (by decide) rfl ?_
      refine rq_st 23 rfl rfl ?_
      exact outer (s12 id + 1) id g G2 _ _ _ _ _ (by omega) (fun x hx => hg x (by omega)) ⟨fun _ _ => Nat.le_refl _, fun _ _ _ _ => rfl⟩ hm2 hs2
    | succ m ih =>
      intro p g G2 hp hg hm2 hs2
      refine rq_st 3 rfl rfl ?_
      refine rq_bp 5 (nI 12) rfl (by decide) rfl ?_
      refine rq_cmpf 8 rfl rfl (by rw [← Bool.not_eq_true, ma_cmpN (by omega) (by omega)]; show ¬ 12 ≤ p; omega) ?_
      refine rq_st 9 rfl rfl ?_
      refine rq_getf 12 rfl hm2.1 rfl rfl ?_
      refine rq_st 13 rfl rfl ?_
      refine rq_st 14 rfl rfl ?_
      refine rq_iasN 15 rfl hm2.ar12 (by omega) (by decide) rfl ?_
      refine rq_incN 18 _ rfl rfl (nI_1 _) rfl rfl ?_
      refine rq_st 2 rfl rfl ?_
      exact ih (p + 1) _ _ (by omega) (fun x hx => by
          unfold upd
          split
          · rename_i h; rw [h]
          · exact hg x (by omega)) hm2.ap12 (hs2.set (mIn_13 b))
  have hm2 : mdl b (va_up A 12 (A 12)) t cn lt gd G := by rw [va_up_id]; exact hm
  refine rq_ic 1 (nI 0) rfl (by decide) rfl ?_
  refine rq_st 2 rfl rfl ?_
  exact init 12 0 _ G (by omega) (fun x hx => absurd hx (Nat.not_lt_zero x)) hm2 sm.rf
