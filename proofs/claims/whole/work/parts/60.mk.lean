/-! cells are made -/
def Qk (C Sx : Nat) (Qc : Option Value → ma_G → Prop) (r : ma_R) : Prop := ∃ v G' c s, r = (.inl v, G', c, s) ∧ c ≤ C ∧ s ≤ Sx ∧ Qc v G'
def Ck (d k : Nat) (As : List Value) (G : ma_G) (C Sx : Nat) (Qc : Option Value → ma_G → Prop) : Prop := ∃ v G' c s, Ca d k As G (.inl v, G', c, s) ∧ c ≤ C ∧ s ≤ Sx ∧ Qc v G'
section MK
variable {d : Nat} {M : ma_M} {pc aux : Nat} {L : ma_L} {S : List Value} {G : ma_G} {Qc : Option Value → ma_G → Prop} {C' S' : Nat}
theorem ck_of {k : Nat} {As : List Value} {C Sx : Nat} (hM : prog k = some M) (h : Rq d M 0 (ma_ent As M.nL) [] G (Qk C Sx Qc)) : Ck (d + 1) k As G C Sx Qc := by
  obtain ⟨r, h1, v, G', c, s, rfl, h2⟩ := h
  exact ⟨v, G', c, s, ca_of hM h1, h2⟩
theorem rk_add {C Sx c1 s1 : Nat} {r : ma_R} (h : Qk C Sx Qc r) (hC : C + c1 ≤ C') (hS : Sx + s1 ≤ S') : Qk C' S' Qc (ma_add r c1 s1) := by
  obtain ⟨v, G', c, s, rfl, h1, h2, h3⟩ := h
  exact ⟨v, G', c + c1, s + s1, rfl, by omega, by omega, h3⟩
theorem rk_new {x : Instr} {pc' k : Nat} {S2 : List Value} {e : va_E} (C Sx : Nat) (hf : ma_find M.cd pc = some (x, aux)) (hn : ma_new x aux pc S G = some (pc', S2, e, k)) (hC : C + 1 ≤ C') (hS : Sx + k ≤ S') (kk : Rq d M pc' L S2 (G ++ [e]) (Qk C Sx Qc)) : Rq d M pc L S G (Qk C' S' Qc) := by
  obtain ⟨r, ⟨n, h⟩, hq⟩ := kk
  exact ⟨ma_add r 1 k, ⟨n + 1, x, aux, hf, Or.inr (Or.inl ⟨pc', S2, e, k, r, hn, h, rfl⟩)⟩, rk_add hq hC hS⟩
theorem rk_newO {ix : Nat} (pc' C Sx a : Nat) (hf : ma_find M.cd pc = some (.new ix, aux)) (h8 : aux < 8) (hl : G.length = a) (hp : pc + 3 = pc') (hC : C + 1 ≤ C') (hS : Sx + ma_N aux ≤ S') (kk : Rq d M pc' L (.ref a :: S) (G ++ [.inr (aux, ma_dfl aux)]) (Qk C Sx Qc)) : Rq d M pc L S G (Qk C' S' Qc) := by
  subst hl; subst hp
  exact rk_new C Sx hf (by simp only [ma_new, if_pos h8]) hC hS kk
theorem rk_newI {ty : ArrayType} (pc' C Sx a n : Nat) (hf : ma_find M.cd pc = some (.newarray ty, 0)) (hn : n ≤ 1000) (hl : G.length = a) (hp : pc + 2 = pc') (hC : C + 1 ≤ C') (hS : Sx + n ≤ S') (kk : Rq d M pc' L (.ref a :: S) (G ++ [.inl (0, n, .inl (fun _ => 0))]) (Qk C Sx Qc)) : Rq d M pc L (.int (nI n) :: S) G (Qk C' S' Qc) := by
  subst hl; subst hp
  refine rk_new (k := n) C Sx hf ?_ hC hS kk
  simp only [ma_new]
  rw [if_neg (nI_pos (by omega)), nI_clamp (by omega), if_neg (by omega)]
  rfl
theorem rk_newL {ty : ArrayType} (pc' C Sx a n : Nat) (hf : ma_find M.cd pc = some (.newarray ty, 1)) (hn : n ≤ 1000) (hl : G.length = a) (hp : pc + 2 = pc') (hC : C + 1 ≤ C') (hS : Sx + n ≤ S') (kk : Rq d M pc' L (.ref a :: S) (G ++ [.inl (1, n, .inr (.inl (fun _ => 0)))]) (Qk C Sx Qc)) : Rq d M pc L (.int (nI n) :: S) G (Qk C' S' Qc) := by
  subst hl; subst hp
  refine rk_new (k := n) C Sx hf ?_ hC hS kk
  simp only [ma_new]
  rw [if_neg (nI_pos (by omega)), nI_clamp (by omega), if_neg (by omega)]
  rfl
theorem rk_newR {ix : Nat} (pc' C Sx a n : Nat) (hf : ma_find M.cd pc = some (.anewarray ix, aux)) (h25 : 2 ≤ aux ∧ aux ≤ 5) (hn : n ≤ 1000) (hl : G.length = a) (hp : pc + 3 = pc') (hC : C + 1 ≤ C') (hS : Sx + n ≤ S') (kk : Rq d M pc' L (.ref a :: S) (G ++ [.inl (aux, n, .inr (.inr (.inr (.inr (fun _ => none)))))]) (Qk C Sx Qc)) : Rq d M pc L (.int (nI n) :: S) G (Qk C' S' Qc) := by
  subst hl; subst hp
  refine rk_new (k := n) C Sx hf ?_ hC hS kk
  simp only [ma_new]
  rw [if_neg (nI_pos (by omega)), nI_clamp (by omega), if_neg (by omega), if_pos h25]
theorem rk_call {x : Instr} {k : Nat} {N : ma_M} (C Sx : Nat) (As rest : List Value) {C1 S1 : Nat} {Q1 : Option Value → ma_G → Prop} (pc' : Nat) (hf : ma_find M.cd pc = some (x, aux)) (hi : ma_inv x aux = some k) (hN : prog k = some N) (hS0 : S = As.reverse ++ rest) (hna : As.length = N.na) (hr : (rest.map fun v => v.category).sum ≤ 8) (hc : ∀ v ∈ As, v.category = 1) (hrc : ma_rcv N As G)
    (hcl : Ck d k As G C1 S1 Q1) (hp : pc + 3 = pc') (hC : C + C1 ≤ C') (hS : Sx + S1 ≤ S') (kk : ∀ v G1, Q1 v G1 → Rq d M pc' L (v.toList ++ rest) G1 (Qk C Sx Qc)) : Rq d M pc L S G (Qk C' S' Qc) := by
  obtain ⟨v, G1, c1, s1, h1, h2, h3, h4⟩ := hcl
  obtain ⟨r, hr1, hq⟩ := kk v G1 h4
  exact ⟨ma_add r c1 s1, ru_callc As rest pc' hf hi hN hS0 hna hr hc hrc h1 hp hr1, rk_add hq (by omega) (by omega)⟩
theorem rk_vret (hf : ma_find M.cd pc = some (.return_, aux)) (hr : M.ret = none) (hq : Qc none G) : Rq d M pc L [] G (Qk C' S' Qc) := ⟨_, ru_vret hf hr, none, G, 0, 0, rfl, Nat.zero_le _, Nat.zero_le _, hq⟩
theorem rk_aas {a j n t v ci : Nat} {f : Nat → Option Nat} {fs : List Value} (pc' : Nat) (hf : ma_find M.cd pc = some (.aastore, aux)) (ho : ma_refs G a = some (t, n, f)) (hj : j < n) (hn : n < 2 ^ 31) (ht : ma_tci t = some ci) (hv : ma_obj G v ci = some fs) (hp : pc + 1 = pc') {Q : ma_R → Prop} (k : Rq d M pc' L S (G.set a (.inl (t, n, .inr (.inr (.inr (.inr (va_up f j (some v)))))))) Q) : Rq d M pc L (.ref v :: .int (nI j) :: .ref a :: S) G Q := by
  subst hp
  refine rq_st _ hf ?_ k
  simp only [ma_step, ho, ix_N hj hn, ht, hv]
end MK
/-- the heap grows; what was there is as it was, but S -/
def gm (S : Nat → Prop) (G G' : ma_G) : Prop := G.length ≤ G'.length ∧ ∀ a : Nat, a < G.length → ¬ S a → G'[a]? = G[a]?
section GM
variable {S : Nat → Prop} {G G' G'' : ma_G} {a ci : Nat} {e : va_E}
theorem gm.rf : gm S G G := ⟨Nat.le_refl _, fun _ _ _ => rfl⟩
theorem gm.tr (h : gm S G G') (h' : gm S G' G'') : gm S G G'' := ⟨Nat.le_trans h.1 h'.1, fun a ha hS => (h'.2 a (Nat.lt_of_lt_of_le ha h.1) hS).trans (h.2 a ha hS)⟩
theorem gm.app (h : gm S G G') : gm S G (G' ++ [e]) := ⟨by rw [List.length_append]; have := h.1; omega, fun a ha hS => by rw [List.getElem?_append_left (Nat.lt_of_lt_of_le ha h.1)]; exact h.2 a ha hS⟩
theorem gm.set (h : gm S G G') (hS : a < G.length → S a) : gm S G (G'.set a e) := ⟨by rw [List.length_set]; exact h.1, fun b hb hSb => by
  rw [List.getElem?_set_ne (fun q => hSb (by rw [← q]; exact hS (by rw [q]; exact hb)))]; exact h.2 b hb hSb⟩
theorem gm.mono {S' : Nat → Prop} (h : gm S G G') (hS : ∀ a, a < G.length → S a → S' a) : gm S' G G' := ⟨h.1, fun a ha hn => h.2 a ha (fun q => hn (hS a ha q))⟩
theorem gm.obj (h : gm S G G') (ha : a < G.length) (hS : ¬ S a) : ma_obj G' a ci = ma_obj G a ci := by unfold ma_obj; rw [h.2 a ha hS]
theorem gm.ints (h : gm S G G') (ha : a < G.length) (hS : ¬ S a) : ma_ints G' a = ma_ints G a := by unfold ma_ints; rw [h.2 a ha hS]
theorem gm.refs (h : gm S G G') (ha : a < G.length) (hS : ¬ S a) : ma_refs G' a = ma_refs G a := by unfold ma_refs; rw [h.2 a ha hS]
theorem app_o : (G ++ [e]).length = G.length + 1 := by rw [List.length_append]; rfl
theorem app_obj (h : a < G.length) : ma_obj (G ++ [e]) a ci = ma_obj G a ci := by unfold ma_obj; rw [List.getElem?_append_left h]
theorem app_ints (h : a < G.length) : ma_ints (G ++ [e]) a = ma_ints G a := by unfold ma_ints; rw [List.getElem?_append_left h]
theorem app_refs (h : a < G.length) : ma_refs (G ++ [e]) a = ma_refs G a := by unfold ma_refs; rw [List.getElem?_append_left h]
theorem app_g (h : G.length = a) : (G ++ [e])[a]? = some e := by subst h; exact List.getElem?_concat_length
theorem new_obj {fs : List Value} (h : G.length = a) : ma_obj (G ++ [.inr (ci, fs)]) a ci = some fs := by unfold ma_obj; rw [app_g h]; simp
theorem new_ints {n : Nat} {f : Nat → Int32} (h : G.length = a) : ma_ints (G ++ [.inl (0, n, .inl f)]) a = some (n, f) := by unfold ma_ints; rw [app_g h]; simp
theorem new_longs {n : Nat} {f : Nat → Int64} (h : G.length = a) : ma_longs (G ++ [.inl (1, n, .inr (.inl f))]) a = some (n, f) := by unfold ma_longs; rw [app_g h]; simp
theorem new_refs {t n : Nat} {f : Nat → Option Nat} (ht : 2 ≤ t ∧ t ≤ 5) (h : G.length = a) : ma_refs (G ++ [.inl (t, n, .inr (.inr (.inr (.inr f))))]) a = some (t, n, f) := by unfold ma_refs; rw [app_g h]; simp [ht]
theorem refs_eq {t n : Nat} {f : Nat → Option Nat} (ht : 2 ≤ t ∧ t ≤ 5) (h : a < G.length) : ma_refs (G.set a (.inl (t, n, .inr (.inr (.inr (.inr f)))))) a = some (t, n, f) := by unfold ma_refs; rw [List.getElem?_set_self h]; simp [ht]
theorem refs_lt {q : Nat × Nat × (Nat → Option Nat)} (h : ma_refs G a = some q) : a < G.length := by
  unfold ma_refs at h
  by_cases e : a < G.length
  · exact e
  · rw [List.getElem?_eq_none (by omega)] at h
    cases h
theorem bk.gm {K N : Nat → Int32} {n : Nat} (h : bk G a K N n) (hg : gm S G G') (h0 : ∀ k, k < 3 → ¬ S (a + k)) : bk G' a K N n := by
  refine ⟨?_, ?_, ?_⟩
  · rw [hg.obj (obj_lt h.1) (h0 0 (by decide))]; exact h.1
  · rw [hg.ints (ints_lt h.2.1) (h0 1 (by decide))]; exact h.2.1
  · rw [hg.ints (ints_lt h.2.2) (h0 2 (by decide))]; exact h.2.2
theorem cl.gm {c : Nat} {K N : Nat → Int32} (h : cl G a c K N) (hg : gm S G G') (h0 : ∀ k, k < 3 → ¬ S (a + k)) : cl G' a c K N := by
  refine ⟨?_, ?_, ?_⟩
  · rw [hg.obj (obj_lt h.1) (h0 0 (by decide))]; exact h.1
  · rw [hg.ints (ints_lt h.2.1) (h0 1 (by decide))]; exact h.2.1
  · rw [hg.ints (ints_lt h.2.2) (h0 2 (by decide))]; exact h.2.2
theorem sk.gm {Wk B E : Nat → Int32} {wr ec wp : Int32} (h : sk G a Wk B E wr ec wp) (hg : gm S G G') (h0 : ∀ k, k < 4 → ¬ S (a + k)) : sk G' a Wk B E wr ec wp := by
  refine ⟨?_, ?_, ?_, ?_⟩
  · rw [hg.obj (obj_lt h.1) (h0 0 (by decide))]; exact h.1
  · rw [hg.ints (ints_lt h.2.1) (h0 1 (by decide))]; exact h.2.1
  · rw [hg.ints (ints_lt h.2.2.1) (h0 2 (by decide))]; exact h.2.2.1
  · rw [hg.ints (ints_lt h.2.2.2) (h0 3 (by decide))]; exact h.2.2.2
theorem sc.gm {z : Nat} {g : Nat → Int32} (h : sc G a z g) (hg : gm S G G') (h0 : ¬ S a) : sc G' a z g := by
  unfold sc at h ⊢
  rw [hg.obj (obj_lt h) h0]
  exact h
theorem nmp.gm {g : Nat → Int32} (h : nmp G a g) (hg : gm S G G') (h0 : ∀ k, k < 2 → ¬ S (a + k)) : nmp G' a g := by
  refine ⟨?_, ?_⟩
  · rw [hg.obj (obj_lt h.1) (h0 0 (by decide))]; exact h.1
  · rw [hg.ints (ints_lt h.2) (h0 1 (by decide))]; exact h.2
end GM
section MK2
variable {d : Nat} {M : ma_M} {pc aux : Nat} {L : ma_L} {S : List Value} {G : ma_G} {Qc : Option Value → ma_G → Prop} {C' S' : Nat}
/-- an object is made -/
theorem rk_obj {ix : Nat} (pc' C Sx a : Nat) (hf : ma_find M.cd pc = some (.new ix, aux)) (h8 : aux < 8) (hl : G.length = a) (hp : pc + 3 = pc') (hC : C + 1 ≤ C') (hS : Sx + ma_N aux ≤ S') (kk : ∀ G1 : ma_G, ma_obj G1 a aux = some (ma_dfl aux) → G1.length = a + 1 → gm (fun _ => False) G G1 → Rq d M pc' L (.ref a :: S) G1 (Qk C Sx Qc)) : Rq d M pc L S G (Qk C' S' Qc) :=
  rk_newO pc' C Sx a hf h8 hl hp hC hS (kk _ (new_obj hl) (by rw [app_o, hl]) gm.rf.app)
/-- an array of ints is made and stands in a field -/
theorem rk_arr {ty : ArrayType} {ix aux2 a b : Nat} {fs : List Value} (pc2 pc' C Sx n : Nat) (hf : ma_find M.cd pc = some (.newarray ty, 0)) (hp2 : pc + 2 = pc2) (hf2 : ma_find M.cd pc2 = some (.putfield ix, aux2)) (hp : pc2 + 3 = pc') (ho : ma_obj G a (aux2 / 100) = some fs) (hlt : aux2 % 100 < fs.length) (ht : ma_isR (ma_fty (aux2 / 100) (aux2 % 100)) = true) (hn : n ≤ 1000) (hl : G.length = b) (hC : C + 1 ≤ C') (hS : Sx + n ≤ S')
    (kk : ∀ G1 : ma_G, ma_obj G1 a (aux2 / 100) = some (fs.set (aux2 % 100) (.ref b)) → ma_ints G1 b = some (n, fun _ => 0) → G1.length = b + 1 → gm (fun x => x = a) G G1 → Rq d M pc' L S G1 (Qk C Sx Qc)) : Rq d M pc L (.int (nI n) :: .ref a :: S) G (Qk C' S' Qc) := by
  have hlt2 := obj_lt ho
  refine rk_newI pc2 C Sx b n hf hn hl hp2 hC hS ?_
  refine rq_putr pc' hf2 ((app_obj hlt2).trans ho) hlt ht hp ?_
  refine kk _ (obj_eq (by rw [app_o]; omega)) ?_ (by rw [List.length_set, app_o, hl]) (gm.rf.app.set (fun _ => rfl))
  rw [ints_ne (by omega)]
  exact new_ints hl
theorem rk_arrR {ix0 ix aux2 a b : Nat} {fs : List Value} (pc2 pc' C Sx n : Nat) (hf : ma_find M.cd pc = some (.anewarray ix0, aux)) (h25 : 2 ≤ aux ∧ aux ≤ 5) (hp2 : pc + 3 = pc2) (hf2 : ma_find M.cd pc2 = some (.putfield ix, aux2)) (hp : pc2 + 3 = pc') (ho : ma_obj G a (aux2 / 100) = some fs) (hlt : aux2 % 100 < fs.length) (ht : ma_isR (ma_fty (aux2 / 100) (aux2 % 100)) = true) (hn : n ≤ 1000) (hl : G.length = b) (hC : C + 1 ≤ C') (hS : Sx + n ≤ S')
    (kk : ∀ G1 : ma_G, ma_obj G1 a (aux2 / 100) = some (fs.set (aux2 % 100) (.ref b)) → ma_refs G1 b = some (aux, n, fun _ => none) → G1.length = b + 1 → gm (fun x => x = a) G G1 → Rq d M pc' L S G1 (Qk C Sx Qc)) : Rq d M pc L (.int (nI n) :: .ref a :: S) G (Qk C' S' Qc) := by
  have hlt2 := obj_lt ho
  refine rk_newR pc2 C Sx b n hf h25 hn hl hp2 hC hS ?_
  refine rq_putr pc' hf2 ((app_obj hlt2).trans ho) hlt ht hp ?_
  refine kk _ (obj_eq (by rw [app_o]; omega)) ?_ (by rw [List.length_set, app_o, hl]) (gm.rf.app.set (fun _ => rfl))
  rw [refs_ne (by omega)]
  exact new_refs h25 hl
theorem rk_puti {ix a : Nat} {fs : List Value} {v : Int32} {Q : ma_R → Prop} (pc' : Nat) (hf : ma_find M.cd pc = some (.putfield ix, aux)) (ho : ma_obj G a (aux / 100) = some fs) (hl : aux % 100 < fs.length) (ht : ma_isI (ma_fty (aux / 100) (aux % 100)) = true) (hp : pc + 3 = pc')
    (kk : ∀ G1 : ma_G, ma_obj G1 a (aux / 100) = some (fs.set (aux % 100) (.int v)) → G1.length = G.length → gm (fun x => x = a) G G1 → Rq d M pc' L S G1 Q) : Rq d M pc L (.int v :: .ref a :: S) G Q :=
  rq_puti pc' hf ho hl ht hp (kk _ (obj_eq (obj_lt ho)) (List.length_set ..) (gm.rf.set (fun _ => rfl)))
theorem rk_putr {ix a b : Nat} {fs : List Value} {Q : ma_R → Prop} (pc' : Nat) (hf : ma_find M.cd pc = some (.putfield ix, aux)) (ho : ma_obj G a (aux / 100) = some fs) (hl : aux % 100 < fs.length) (ht : ma_isR (ma_fty (aux / 100) (aux % 100)) = true) (hp : pc + 3 = pc')
    (kk : ∀ G1 : ma_G, ma_obj G1 a (aux / 100) = some (fs.set (aux % 100) (.ref b)) → G1.length = G.length → gm (fun x => x = a) G G1 → Rq d M pc' L S G1 Q) : Rq d M pc L (.ref b :: .ref a :: S) G Q :=
  rq_putr pc' hf ho hl ht hp (kk _ (obj_eq (obj_lt ho)) (List.length_set ..) (gm.rf.set (fun _ => rfl)))
theorem rk_aasg {a j n t v ci : Nat} {f : Nat → Option Nat} {fs : List Value} {Q : ma_R → Prop} (pc' : Nat) (hf : ma_find M.cd pc = some (.aastore, aux)) (ho : ma_refs G a = some (t, n, f)) (h25 : 2 ≤ t ∧ t ≤ 5) (hj : j < n) (hn : n < 2 ^ 31) (ht : ma_tci t = some ci) (hv : ma_obj G v ci = some fs) (hp : pc + 1 = pc')
    (kk : ∀ G1 : ma_G, ma_refs G1 a = some (t, n, va_up f j (some v)) → G1.length = G.length → gm (fun x => x = a) G G1 → Rq d M pc' L S G1 Q) : Rq d M pc L (.ref v :: .int (nI j) :: .ref a :: S) G Q :=
  rk_aas pc' hf ho hj hn ht hv hp (kk _ (refs_eq h25 (refs_lt ho)) (List.length_set ..) (gm.rf.set (fun _ => rfl)))
end MK2
theorem p_X4_init (d : Nat) {G : ma_G} {a : Nat} (ho : ma_obj G a 4 = some [.int 0, .int 0, .int 0, .int 0]) (hl : G.length = a + 1) : Ck (d + 1) 1 [.ref a] G 0 0 (fun r G2 => r = none ∧ G2.length = a + 1 ∧ gm (fun x => x = a) G G2 ∧ sc G2 a 1 (fun _ => 0)) := by
  refine ck_of rfl ?_
  refine rq_st 1 rfl rfl ?_
  refine rq_st 4 rfl rfl ?_
  refine rq_st 5 rfl rfl ?_
  refine rq_ic 6 (nI 1) rfl (by decide) rfl ?_
  refine rk_puti 9 rfl ho (Nat.le_of_ble_eq_true rfl) rfl rfl (fun G1 ho1 hl1 hg1 => ?_)
  rw [hl] at hl1
  exact rk_vret rfl rfl ⟨rfl, hl1, hg1, ho1⟩
theorem p_X0_init (d : Nat) {G : ma_G} {a : Nat} (ho : ma_obj G a 0 = some [.null, .null, .int 0]) (hl : G.length = a + 1) : Ck (d + 1) 2 [.ref a] G 2 120 (fun r G2 => r = none ∧ G2.length = a + 3 ∧ gm (fun x => x = a) G G2 ∧ bk G2 a (fun _ => 0) (fun _ => 0) 0) := by
  refine ck_of rfl ?_
  refine rq_st 1 rfl rfl ?_
  refine rq_st 4 rfl rfl ?_
  refine rq_st 5 rfl rfl ?_
  refine rq_bp 7 (nI 24) rfl (by decide) rfl ?_
  refine rk_arr 9 12 1 96 24 rfl rfl rfl rfl ho (Nat.le_of_ble_eq_true rfl) rfl (by decide) hl (by decide) (by decide) (fun G1 ho1 ha1 hl1 hg1 => ?_)
  refine rq_st 13 rfl rfl ?_
  refine rq_bp 15 (nI 96) rfl (by decide) rfl ?_
  refine rk_arr 17 20 0 0 96 rfl rfl rfl rfl ho1 (Nat.le_of_ble_eq_true rfl) rfl (by decide) hl1 (by decide) (by decide) (fun G2 ho2 ha2 hl2 hg2 => ?_)
  exact rk_vret rfl rfl ⟨rfl, hl2, hg1.tr hg2, ho2, (hg2.ints (by omega) (by omega)).trans ha1, ha2⟩
theorem p_X1_init (d : Nat) {G : ma_G} {a : Nat} {c : Nat} (ho : ma_obj G a 1 = some [.int 0, .null, .null]) (hl : G.length = a + 1) : Ck (d + 1) 3 [.ref a, .int (nI c)] G 2 20 (fun r G2 => r = none ∧ G2.length = a + 3 ∧ gm (fun x => x = a) G G2 ∧ cl G2 a c (fun _ => 0) (fun _ => 0)) := by
  refine ck_of rfl ?_
  refine rq_st 1 rfl rfl ?_
  refine rq_st 4 rfl rfl ?_
  refine rq_st 5 rfl rfl ?_
  refine rq_st 6 rfl rfl ?_
  refine rk_puti 9 rfl ho (Nat.le_of_ble_eq_true rfl) rfl rfl (fun G1 ho1 hl1 hg1 => ?_)
  rw [hl] at hl1
  refine rq_st 10 rfl rfl ?_
  refine rq_ic 11 (nI 4) rfl (by decide) rfl ?_
  refine rk_arr 13 16 1 16 4 rfl rfl rfl rfl ho1 (Nat.le_of_ble_eq_true rfl) rfl (by decide) hl1 (by decide) (by decide) (fun G2 ho2 ha2 hl2 hg2 => ?_)
  refine rq_st 17 rfl rfl ?_
  refine rq_bp 19 (nI 16) rfl (by decide) rfl ?_
  refine rk_arr 21 24 0 0 16 rfl rfl rfl rfl ho2 (Nat.le_of_ble_eq_true rfl) rfl (by decide) hl2 (by decide) (by decide) (fun G3 ho3 ha3 hl3 hg3 => ?_)
  exact rk_vret rfl rfl ⟨rfl, hl3, (hg1.tr hg2).tr hg3, ho3, (hg3.ints (by omega) (by omega)).trans ha2, ha3⟩
theorem p_X5_init (d : Nat) {G : ma_G} {a : Nat} (ho : ma_obj G a 5 = some [.null, .null, .null, .int 0, .int 0, .int 0]) (hl : G.length = a + 1) : Ck (d + 1) 4 [.ref a] G 3 196 (fun r G2 => r = none ∧ G2.length = a + 4 ∧ gm (fun x => x = a) G G2 ∧ sk G2 a (fun _ => 0) (fun _ => 0) (fun _ => 0) (nI 0) (nI 0) (nI 0)) := by
  refine ck_of rfl ?_
  refine rq_st 1 rfl rfl ?_
  refine rq_st 4 rfl rfl ?_
  refine rq_st 5 rfl rfl ?_
  refine rq_ic 6 (nI 4) rfl (by decide) rfl ?_
  refine rk_arr 8 11 2 192 4 rfl rfl rfl rfl ho (Nat.le_of_ble_eq_true rfl) rfl (by decide) hl (by decide) (by decide) (fun G1 ho1 ha1 hl1 hg1 => ?_)
  refine rq_st 12 rfl rfl ?_
  refine rq_bp 14 (nI 96) rfl (by decide) rfl ?_
  refine rk_arr 16 19 1 96 96 rfl rfl rfl rfl ho1 (Nat.le_of_ble_eq_true rfl) rfl (by decide) hl1 (by decide) (by decide) (fun G2 ho2 ha2 hl2 hg2 => ?_)
  refine rq_st 20 rfl rfl ?_
  refine rq_bp 22 (nI 96) rfl (by decide) rfl ?_
  refine rk_arr 24 27 0 0 96 rfl rfl rfl rfl ho2 (Nat.le_of_ble_eq_true rfl) rfl (by decide) hl2 (by decide) (by decide) (fun G3 ho3 ha3 hl3 hg3 => ?_)
  exact rk_vret rfl rfl ⟨rfl, hl3, (hg1.tr hg2).tr hg3, ho3, ((hg2.tr hg3).ints (by omega) (by omega)).trans ha1, (hg3.ints (by omega) (by omega)).trans ha2, ha3⟩
theorem p_X3_init (d : Nat) {G : ma_G} {a : Nat} (ho : ma_obj G a 3 = some [.null]) (hl : G.length = a + 1) : Ck (d + 1) 5 [.ref a] G 1 12 (fun r G2 => r = none ∧ G2.length = a + 2 ∧ gm (fun x => x = a) G G2 ∧ nmp G2 a (fun _ => 0)) := by
  refine ck_of rfl ?_
  refine rq_st 1 rfl rfl ?_
  refine rq_st 4 rfl rfl ?_
  refine rq_st 5 rfl rfl ?_
  refine rq_bp 7 (nI 12) rfl (by decide) rfl ?_
  refine rk_arr 9 12 0 0 12 rfl rfl rfl rfl ho (Nat.le_of_ble_eq_true rfl) rfl (by decide) hl (by decide) (by decide) (fun G1 ho1 ha1 hl1 hg1 => ?_)
  exact rk_vret rfl rfl ⟨rfl, hl1, hg1, ho1, ha1⟩
theorem p_X2_init (d : Nat) {G : ma_G} {a : Nat} (ho : ma_obj G a 2 = some [.null, .int 0, .int 0, .int 0]) (hl : G.length = a + 1) : Ck (d + 1) 6 [.ref a] G 1 96 (fun r G2 => r = none ∧ G2.length = a + 2 ∧ gm (fun x => x = a) G G2 ∧ co G2 a (fun _ => 0) 0 0 0) := by
  refine ck_of rfl ?_
  refine rq_st 1 rfl rfl ?_
  refine rq_st 4 rfl rfl ?_
  refine rq_st 5 rfl rfl ?_
  refine rq_bp 7 (nI 96) rfl (by decide) rfl ?_
  refine rk_arr 9 12 0 0 96 rfl rfl rfl rfl ho (Nat.le_of_ble_eq_true rfl) rfl (by decide) hl (by decide) (by decide) (fun G1 ho1 ha1 hl1 hg1 => ?_)
  exact rk_vret rfl rfl ⟨rfl, hl1, hg1, ho1, ha1⟩
