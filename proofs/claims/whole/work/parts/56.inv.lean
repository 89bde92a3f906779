/-! what holds between the calls -/
def wfE (A : Nat → Nat → Int32) (n : Nat → Nat) : Prop := ∀ a, a < 96 → a % 24 < n (a / 24) → (A 3 a = nI 1 → ∃ q dd, q < 12 ∧ dd ≤ 40000 ∧ A 4 (4 * a) = nI q ∧ A 4 (4 * a + 3) = nI dd) ∧ (A 3 a = nI 4 → ∃ p q, p < 12 ∧ q < 12 ∧ A 4 (4 * a) = nI p ∧ A 4 (4 * a + 1) = nI q)
theorem wfE.d {A : Nat → Nat → Int32} {n : Nat → Nat} {kn : Nat → Nat → Nat} (h : wfE A n) (hk : mKn A n kn) {c : Nat} (hc : c < 4) : wfD A kn c := fun a ha hK h1 => (h a ha (Nat.lt_of_lt_of_le hK (hk.2 c (a / 24) hc (by omega)).2)).1 h1
theorem wfE.s {A : Nat → Nat → Int32} {n : Nat → Nat} {kn : Nat → Nat → Nat} (h : wfE A n) (hk : mKn A n kn) {c : Nat} (hc : c < 4) : wfS A kn c := fun a ha hs => by
  obtain ⟨p, q, h1, h2, h3, h4⟩ := (h a ha (Nat.lt_of_lt_of_le hs.1 (hk.2 c (a / 24) hc (by omega)).2)).2 hs.2
  exact ⟨p, q, hs, h1, h2, h3, h4⟩
def stOK (A : Nat → Nat → Int32) (n : Nat → Nat) (kn : Nat → Nat → Nat) (hr : Nat → Nat → Nat → Nat) (dz w my wr : Nat → Nat) (sy : Nat → Nat → Nat) (ls : Nat → List Nat) : Prop := mKn A n kn ∧ mHr A hr ∧ mDz A dz ∧ mSt A w my ∧ mSk A n my wr sy ls ∧ wfE A n ∧ ∀ c, c < 4 → kn c c = n c
def clOK (A : Nat → Nat → Int32) (n : Nat → Nat) (kn : Nat → Nat → Nat) (hr : Nat → Nat → Nat → Nat) (dz w my wr : Nat → Nat) (sy : Nat → Nat → Nat) (ls : Nat → List Nat) (G : ma_G) : Prop := cRd A n kn hr G ∧ cSt w my wr sy ls G ∧ cSc A dz G ∧ (∃ g, nmp G 45 g) ∧ ∃ D sz k ld, co G 47 D sz k ld
def envO (L : Nat) (xs : Nat → Int32) (G : ma_G) (o : Nat → Int64) : Prop := G[0]? = some (.inl (9, L, .inl xs)) ∧ ma_longs G 63 = some (1, o)
def INV (L : Nat) (xs : Nat → Int32) (t : Int32) (G : ma_G) (o : Nat → Int64) : Prop := ∃ A n kn hr dz w my wr sy ls cn lt gd, stOK A n kn hr dz w my wr sy ls ∧ clOK A n kn hr dz w my wr sy ls G ∧ mdl 49 A t cn lt gd G ∧ envO L xs G o
def cIn : Nat → Prop := fun x => 1 ≤ x ∧ x < 49
theorem sm.longs {S : Nat → Prop} {G G' : ma_G} (h : sm S G G') {a : Nat} (ha : ¬ S a) : ma_longs G' a = ma_longs G a := by unfold ma_longs; rw [h.2 a ha]
theorem envO.sm {L : Nat} {xs : Nat → Int32} {G G' : ma_G} {o : Nat → Int64} {S : Nat → Prop} (h : envO L xs G o) (hs : sm S G G') (h0 : ¬ S 0) (h1 : ¬ S 63) : envO L xs G' o := by
  refine ⟨?_, ?_⟩
  · rw [hs.2 0 h0]; exact h.1
  · rw [hs.longs h1]; exact h.2
theorem clOK.sm {A : Nat → Nat → Int32} {n : Nat → Nat} {kn : Nat → Nat → Nat} {hr : Nat → Nat → Nat → Nat} {dz w my wr : Nat → Nat} {sy : Nat → Nat → Nat} {ls : Nat → List Nat} {G G' : ma_G} {S : Nat → Prop} (h : clOK A n kn hr dz w my wr sy ls G) (hs : sm S G G') (h0 : ∀ a, 1 ≤ a → a < 49 → ¬ S a) : clOK A n kn hr dz w my wr sy ls G' := by
  obtain ⟨h1, h2, h3, ⟨g, h4⟩, D, sz, k, ld, h5⟩ := h
  exact ⟨h1.sm hs (fun a q1 q2 => h0 a (by omega) (by omega)), h2.sm hs (fun a q1 q2 => h0 a (by omega) (by omega)), h3.sm hs (fun a q1 q2 => h0 a (by omega) (by omega)), ⟨g, h4.sm hs (h0 _ (by omega) (by omega)) (h0 _ (by omega) (by omega))⟩, D, sz, k, ld, h5.sm hs (h0 _ (by omega) (by omega)) (h0 _ (by omega) (by omega))⟩
theorem clOK_m {A : Nat → Nat → Int32} {n : Nat → Nat} {kn : Nat → Nat → Nat} {hr : Nat → Nat → Nat → Nat} {dz w my wr : Nat → Nat} {sy : Nat → Nat → Nat} {ls : Nat → List Nat} {G G' : ma_G} (h : clOK A n kn hr dz w my wr sy ls G) (hs : sm (mIn 49) G G') : clOK A n kn hr dz w my wr sy ls G' := h.sm hs (fun a _ h2 q => absurd q.1 (by omega))
theorem envO_m {L : Nat} {xs : Nat → Int32} {G G' : ma_G} {o : Nat → Int64} (h : envO L xs G o) (hs : sm (mIn 49) G G') : envO L xs G' o := h.sm hs (fun q => absurd q.1 (by omega)) (fun q => absurd q.2 (by omega))
theorem envO_c {L : Nat} {xs : Nat → Int32} {G G' : ma_G} {o : Nat → Int64} (h : envO L xs G o) (hs : sm cIn G G') : envO L xs G' o := h.sm hs (fun q => absurd q.1 (by omega)) (fun q => absurd q.2 (by omega))
theorem mdl_c {A : Nat → Nat → Int32} {t cn lt gd : Int32} {G G' : ma_G} (h : mdl 49 A t cn lt gd G) (hs : sm cIn G G') : mdl 49 A t cn lt gd G' := h.sm hs (fun a q1 q2 => absurd q1.2 (by have := q2.1; omega))
theorem outS_sm (G : ma_G) (o : Nat → Int64) (v : Int64) : sm (fun x => x = 63) G (outS G o v) := sm.rf.set rfl
theorem mdl.o {A : Nat → Nat → Int32} {t cn lt gd : Int32} {G : ma_G} (h : mdl 49 A t cn lt gd G) (o : Nat → Int64) (v : Int64) : mdl 49 A t cn lt gd (outS G o v) := h.sm (outS_sm G o v) (fun a q1 q2 => absurd q2.2 (by omega))
theorem clOK.o {A : Nat → Nat → Int32} {n : Nat → Nat} {kn : Nat → Nat → Nat} {hr : Nat → Nat → Nat → Nat} {dz w my wr : Nat → Nat} {sy : Nat → Nat → Nat} {ls : Nat → List Nat} {G : ma_G} (h : clOK A n kn hr dz w my wr sy ls G) (o : Nat → Int64) (v : Int64) : clOK A n kn hr dz w my wr sy ls (outS G o v) := h.sm (outS_sm G o v) (fun a _ h2 q => by omega)
theorem envO.o {L : Nat} {xs : Nat → Int32} {G : ma_G} {o : Nat → Int64} (h : envO L xs G o) (v : Int64) : envO L xs (outS G o v) (vp_updL o 0 v) := ⟨by rw [(outS_sm G o v).2 0 (by omega)]; exact h.1, longs_eq (longs_lt h.2)⟩
theorem envO.s {L : Nat} {xs : Nat → Int32} {G : ma_G} {o : Nat → Int64} (h : envO L xs G o) : ma_scr G 0 = some (L, xs) := by
  unfold ma_scr
  rw [if_pos rfl, h.1]
/-- between the class's call and the model's -/
def mid (L : Nat) (xs : Nat → Int32) (G : ma_G) : Prop := (∃ fs, ma_obj G 49 7 = some fs) ∧ ma_scr G 0 = some (L, xs)
theorem mid_of {L : Nat} {xs : Nat → Int32} {G : ma_G} {o : Nat → Int64} {A : Nat → Nat → Int32} {t cn lt gd : Int32} (hm : mdl 49 A t cn lt gd G) (he : envO L xs G o) : mid L xs G := ⟨⟨_, hm.1⟩, he.s⟩
def PRi (L : Nat) (xs : Nat → Int32) (G : ma_G) (kx : Nat) (Asx : List Value) (km : Nat) (Asm : List Value) : Prop := ∃ k b G1 c1 s1 G2 o, c1 ≤ 1 ∧ s1 ≤ 6 ∧ Ca 9 kx Asx G (.inl (some (.int k)), G1, c1, s1) ∧ mid L xs G1 ∧ Ca 9 km Asm G1 (.inl (some (.int b)), G2, 0, 0) ∧ INV L xs k G2 o ∧ (k = 0 → o 0 = b.toInt64)
def PRv (L : Nat) (xs : Nat → Int32) (G : ma_G) (kx : Nat) (Asx : List Value) (km : Nat) (Asm : List Value) : Prop := ∃ k G1 c1 s1 G2 o, c1 ≤ 1 ∧ s1 ≤ 6 ∧ Ca 9 kx Asx G (.inl (some (.int k)), G1, c1, s1) ∧ mid L xs G1 ∧ Ca 9 km Asm G1 (.inl none, G2, 0, 0) ∧ INV L xs k G2 o
def PRl (L : Nat) (xs : Nat → Int32) (G : ma_G) (kx : Nat) (Asx : List Value) (km : Nat) (Asm : List Value) : Prop := ∃ k b G1 c1 s1 G2 o, c1 ≤ 1 ∧ s1 ≤ 6 ∧ Ca 9 kx Asx G (.inl (some (.int k)), G1, c1, s1) ∧ mid L xs G1 ∧ Ca 9 km Asm G1 (.inl (some (.long b)), G2, 0, 0) ∧ INV L xs k G2 o ∧ (k = 0 → o 0 = b)
def PRr (L : Nat) (xs : Nat → Int32) (G : ma_G) (kx : Nat) (Asx : List Value) (km : Nat) (Asm : List Value) : Prop := ∃ v G1 G2 t o, Ca 9 kx Asx G (.inl (some (.int v)), G1, 0, 0) ∧ mid L xs G1 ∧ Ca 9 km Asm G1 (.inl (some (.int v)), G2, 0, 0) ∧ INV L xs t G2 o
section PR
variable {L : Nat} {xs : Nat → Int32} {G G1 : ma_G} {o : Nat → Int64} {kx km : Nat} {Asx Asm : List Value} {A0 A : Nat → Nat → Int32} {n : Nat → Nat} {kn : Nat → Nat → Nat} {hr : Nat → Nat → Nat → Nat} {dz w my wr : Nat → Nat} {sy : Nat → Nat → Nat} {ls : Nat → List Nat} {t0 cn0 lt0 gd0 : Int32}
theorem pr_thr {k : Nat} (hk0 : nI k ≠ 0) (hw : Ca 9 kx Asx G (.inl (some (.int (nI k))), G, 1, 6)) (hst : stOK A n kn hr dz w my wr sy ls) (hcl : clOK A n kn hr dz w my wr sy ls G) (he : envO L xs G o) (hm : mdl 49 A0 t0 cn0 lt0 gd0 G) (hq : ∃ b G3 cn lt gd, Ca 9 km Asm G (.inl (some (.int b)), G3, 0, 0) ∧ sm (mIn 49) G G3 ∧ mdl 49 A (nI k) cn lt gd G3) : PRi L xs G kx Asx km Asm := by
  obtain ⟨b, G3, cn, lt, gd, h1, h2, h3⟩ := hq
  exact ⟨nI k, b, G, 1, 6, G3, o, Nat.le_refl 1, Nat.le_refl 6, hw, mid_of hm he, h1, ⟨A, n, kn, hr, dz, w, my, wr, sy, ls, cn, lt, gd, hst, clOK_m hcl h2, h3, envO_m he h2⟩, fun q => absurd q hk0⟩
theorem pr_fin {v : Int32} (hw : Ca 9 kx Asx G (.inl (some (.int (nI 0))), outS G1 o v.toInt64, 0, 0)) (hst : stOK A n kn hr dz w my wr sy ls) (hcl : clOK A n kn hr dz w my wr sy ls G1) (he : envO L xs G1 o) (hm : mdl 49 A0 t0 cn0 lt0 gd0 G1) (hq : ∃ G3 cn lt gd, Ca 9 km Asm (outS G1 o v.toInt64) (.inl (some (.int v)), G3, 0, 0) ∧ sm (mIn 49) (outS G1 o v.toInt64) G3 ∧ mdl 49 A (nI 0) cn lt gd G3) : PRi L xs G kx Asx km Asm := by
  obtain ⟨G3, cn, lt, gd, h1, h2, h3⟩ := hq
  exact ⟨nI 0, v, outS G1 o v.toInt64, 0, 0, G3, _, Nat.zero_le _, Nat.zero_le _, hw, mid_of (hm.o o _) (he.o _), h1, ⟨A, n, kn, hr, dz, w, my, wr, sy, ls, cn, lt, gd, hst, clOK_m (hcl.o o _) h2, h3, envO_m (he.o _) h2⟩, fun _ => pk_uLs⟩
theorem pr_rd {v : Int32} (hw : Ca 9 kx Asx G (.inl (some (.int v)), G1, 0, 0)) (hst : stOK A n kn hr dz w my wr sy ls) (hcl : clOK A n kn hr dz w my wr sy ls G1) (he : envO L xs G1 o) (hm : mdl 49 A0 t0 cn0 lt0 gd0 G1) (hq : ∃ G3 t cn lt gd, Ca 9 km Asm G1 (.inl (some (.int v)), G3, 0, 0) ∧ sm (mIn 49) G1 G3 ∧ mdl 49 A t cn lt gd G3) : PRr L xs G kx Asx km Asm := by
  obtain ⟨G3, t, cn, lt, gd, h1, h2, h3⟩ := hq
  exact ⟨v, G1, G3, t, o, hw, mid_of hm he, h1, ⟨A, n, kn, hr, dz, w, my, wr, sy, ls, cn, lt, gd, hst, clOK_m hcl h2, h3, envO_m he h2⟩⟩
end PR
theorem knP_one {A : Nat → Nat → Int32} {c d v v' : Int32} (h : knP A c d v) (h' : knP A c d v') : v = v' := by
  rcases h with ⟨h1, rfl⟩ | ⟨i, j, hi, hj, rfl, rfl, rfl⟩
  · rcases h' with ⟨_, rfl⟩ | ⟨i, j, hi, hj, rfl, rfl, rfl⟩
    · rfl
    · exact absurd ⟨⟨i, hi, rfl⟩, ⟨j, hj, rfl⟩⟩ h1
  · rcases h' with ⟨h1, rfl⟩ | ⟨i', j', hi', hj', e1, e2, rfl⟩
    · exact absurd ⟨⟨i, hi, rfl⟩, ⟨j, hj, rfl⟩⟩ h1
    · rw [nI_inj (by omega) (by omega) e1, nI_inj (by omega) (by omega) e2]
theorem heP_one {A : Nat → Nat → Int32} {c b d v v' : Int32} (h : heP A c b d v) (h' : heP A c b d v') : v = v' := by
  have key : ∀ {i j k : Nat}, i < 4 → j < 4 → k < 4 → ¬ i = j → (inN (nI i) 4 ∧ inN (nI j) 4 ∧ inN (nI k) 4 ∧ ¬ nI i = nI j) := fun hi hj hk hij => ⟨⟨_, hi, rfl⟩, ⟨_, hj, rfl⟩, ⟨_, hk, rfl⟩, fun q => hij (nI_inj (by omega) (by omega) q)⟩
  rcases h with ⟨h1, rfl⟩ | ⟨i, j, k, hi, hj, hk, hij, rfl, rfl, rfl, rfl⟩
  · rcases h' with ⟨_, rfl⟩ | ⟨i, j, k, hi, hj, hk, hij, rfl, rfl, rfl, rfl⟩
    · rfl
    · exact absurd (key hi hj hk hij) h1
  · rcases h' with ⟨h1, rfl⟩ | ⟨i', j', k', hi', hj', hk', hij', e1, e2, e3, rfl⟩
    · exact absurd (key hi hj hk hij) h1
    · rw [nI_inj (by omega) (by omega) e1, nI_inj (by omega) (by omega) e2, nI_inj (by omega) (by omega) e3]
theorem enP_one {A : Nat → Nat → Int32} {n : Nat → Nat} {kn : Nat → Nat → Nat} (hk : mKn A n kn) {c d i w v v' : Int32} (h : enP A kn c d i w v) (h' : enP A kn c d i w v') : v = v' := by
  have key : ∀ {p q x y : Nat}, p < 4 → q < 4 → x < kn p q → y < 5 → c = nI p → d = nI q → i = nI x → w = nI y → ¬ (¬ (inN c 4 ∧ inN d 4 ∧ inN w 5) ∨ ∃ p q, p < 4 ∧ q < 4 ∧ c = nI p ∧ d = nI q ∧ ¬ inN i (kn p q)) := by
    intro p q x y hp hq hx hy e1 e2 e3 e4 hn
    subst e1; subst e2; subst e3; subst e4
    rcases hn with hn | ⟨p', q', hp', hq', e1, e2, hn⟩
    · exact hn ⟨⟨_, hp, rfl⟩, ⟨_, hq, rfl⟩, ⟨_, hy, rfl⟩⟩
    · rw [← nI_inj (by omega) (by omega) e1, ← nI_inj (by omega) (by omega) e2] at hn
      exact hn ⟨_, hx, rfl⟩
  rcases h with ⟨h1, rfl⟩ | ⟨p, q, x, y, hp, hq, hx, hy, rfl, rfl, rfl, rfl, rfl⟩
  · rcases h' with ⟨_, rfl⟩ | ⟨p, q, x, y, hp, hq, hx, hy, e1, e2, e3, e4, rfl⟩
    · rfl
    · exact absurd h1 (key hp hq hx hy e1 e2 e3 e4)
  · rcases h' with ⟨h1, rfl⟩ | ⟨p', q', x', y', hp', hq', hx', hy', e1, e2, e3, e4, rfl⟩
    · exact absurd h1 (key hp hq hx hy rfl rfl rfl rfl)
    · have b1 := hk.le hp hq
      have b2 := hk.le hp' hq'
      rw [nI_inj (by omega) (by omega) e2, nI_inj (by omega) (by omega) e3, nI_inj (by omega) (by omega) e4]
theorem stP_one {A : Nat → Nat → Int32} {w my : Nat → Nat} {s x v v' : Int32} (h : stP A w my s x v) (h' : stP A w my s x v') : v = v' := by
  rcases h with ⟨h1, rfl⟩ | ⟨i, j, hi, hj, rfl, rfl, rfl⟩
  · rcases h' with ⟨_, rfl⟩ | ⟨i, j, hi, hj, rfl, rfl, rfl⟩
    · rfl
    · exact absurd ⟨⟨i, hi, rfl⟩, ⟨j, hj, rfl⟩⟩ h1
  · rcases h' with ⟨h1, rfl⟩ | ⟨i', j', hi', hj', e1, e2, rfl⟩
    · exact absurd ⟨⟨i, hi, rfl⟩, ⟨j, hj, rfl⟩⟩ h1
    · rw [nI_inj (by omega) (by omega) e1, nI_inj (by omega) (by omega) e2]
theorem llP_one {A : Nat → Nat → Int32} {kn : Nat → Nat → Nat} {c lot i v v' : Int32} (h : llP A kn c lot i v) (h' : llP A kn c lot i v') : v = v' := by
  rcases h with ⟨h1, rfl⟩ | ⟨p, hp, rfl, hl, rfl⟩
  · rcases h' with ⟨_, rfl⟩ | ⟨p, hp, rfl, hl, rfl⟩
    · rfl
    · exact absurd ⟨⟨p, hp, rfl⟩, hl⟩ h1
  · rcases h' with ⟨h1, rfl⟩ | ⟨p', hp', e1, hl', rfl⟩
    · exact absurd ⟨⟨p, hp, rfl⟩, hl⟩ h1
    · rw [nI_inj (by omega) (by omega) e1]
