/-! the constructors of the class and of the model -/
def F1 (G : ma_G) : Prop := (∃ f, ma_refs G 2 = some (2, 3, f) ∧ ∀ v, v < 3 → f v = some (3 + v)) ∧ ∀ v, v < 3 → sc G (3 + v) 1 (fun _ => 0)
def F2 (G : ma_G) : Prop := (∃ f, ma_refs G 6 = some (3, 4, f) ∧ ∀ c, c < 4 → f c = some (8 + 6 * c)) ∧ (∃ f, ma_refs G 7 = some (4, 4, f) ∧ ∀ c, c < 4 → f c = some (11 + 6 * c)) ∧ ∀ c, c < 4 → bk G (8 + 6 * c) (fun _ => 0) (fun _ => 0) 0 ∧ cl G (11 + 6 * c) c (fun _ => 0) (fun _ => 0)
def F3 (G : ma_G) : Prop := (∃ f, ma_refs G 32 = some (5, 3, f) ∧ ∀ s, s < 3 → f s = some (33 + 4 * s)) ∧ ∀ s, s < 3 → sk G (33 + 4 * s) (fun _ => 0) (fun _ => 0) (fun _ => 0) (nI 0) (nI 0) (nI 0)
theorem F1.gm {S : Nat → Prop} {G G' : ma_G} (h : F1 G) (hg : gm S G G') (h0 : ∀ a, 2 ≤ a → a < 6 → ¬ S a) : F1 G' := by
  obtain ⟨⟨f, h1, h2⟩, h3⟩ := h
  exact ⟨⟨f, (hg.refs (refs_lt h1) (h0 2 (by omega) (by omega))).trans h1, h2⟩, fun v hv => (h3 v hv).gm hg (h0 _ (by omega) (by omega))⟩
theorem F2.gm {S : Nat → Prop} {G G' : ma_G} (h : F2 G) (hg : gm S G G') (h0 : ∀ a, 6 ≤ a → a < 32 → ¬ S a) : F2 G' := by
  obtain ⟨⟨f, h1, h2⟩, ⟨f', h1', h2'⟩, h3⟩ := h
  exact ⟨⟨f, (hg.refs (refs_lt h1) (h0 6 (by omega) (by omega))).trans h1, h2⟩, ⟨f', (hg.refs (refs_lt h1') (h0 7 (by omega) (by omega))).trans h1', h2'⟩, fun c hc => ⟨(h3 c hc).1.gm hg (fun k hk => h0 _ (by omega) (by omega)), (h3 c hc).2.gm hg (fun k hk => h0 _ (by omega) (by omega))⟩⟩
theorem F3.gm {S : Nat → Prop} {G G' : ma_G} (h : F3 G) (hg : gm S G G') (h0 : ∀ a, 32 ≤ a → a < 45 → ¬ S a) : F3 G' := by
  obtain ⟨⟨f, h1, h2⟩, h3⟩ := h
  exact ⟨⟨f, (hg.refs (refs_lt h1) (h0 32 (by omega) (by omega))).trans h1, h2⟩, fun s hs => (h3 s hs).gm hg (fun k hk => h0 _ (by omega) (by omega))⟩
def clI (G : ma_G) : Prop := ma_obj G 1 6 = some [.ref 2, .ref 6, .ref 7, .ref 32, .ref 45, .ref 47] ∧ F1 G ∧ F2 G ∧ F3 G ∧ nmp G 45 (fun _ => 0) ∧ co G 47 (fun _ => 0) 0 0 0
theorem gmF {S : Nat → Prop} {G G' : ma_G} (h : gm (fun _ => False) G G') : gm S G G' := h.mono (fun _ _ q => q.elim)
theorem va_up_y {α : Type} {f : Nat → α} {k : Nat} {v : α} : va_up f k v k = v := if_pos rfl
theorem va_up_o {α : Type} {f : Nat → α} {k j : Nat} {v : α} (h : j ≠ k) : va_up f k v j = f j := if_neg h
theorem gm.trn {S S' : Nat → Prop} {G G' G'' : ma_G} (h : gm S G G') (h' : gm S' G' G'') (hS : ∀ a, a < G.length → S' a → S a) : gm S G G'' := ⟨Nat.le_trans h.1 h'.1, fun a ha hn => (h'.2 a (Nat.lt_of_lt_of_le ha h.1) (fun q => hn (hS a ha q))).trans (h.2 a ha hn)⟩
set_option maxHeartbeats 1000000 in
theorem p_X6_init (d : Nat) {G : ma_G} (ho : ma_obj G 1 6 = some [.null, .null, .null, .null, .null, .null]) (hl : G.length = 2) : Ck (d + 2) 0 [.ref 1] G 47 1329 (fun r G2 => r = none ∧ G2.length = 49 ∧ gm (fun x => x = 1) G G2 ∧ clI G2) := by
  refine ck_of rfl ?_
  have J128 : ∀ (o1 : Option Value) (G2 : ma_G), G2.length = 45 → ma_obj G2 1 6 = some [.ref 2, .ref 6, .ref 7, .ref 32, .null, .null] → F1 G2 → F2 G2 → F3 G2 → gm (fun x => x = 1) G G2 → Rq (d + 1) M_X6_init 128 [some (.ref 1), o1] [] G2 (Qk 4 113 (fun r G2 => r = none ∧ G2.length = 49 ∧ gm (fun x => x = 1) G G2 ∧ clI G2)) := by
    intro o1 G2 hl2 ho2 hF1 hF2 hF3 hg
    refine rq_st 129 rfl rfl ?_
    refine rk_obj 132 3 112 (45) rfl (by decide) hl2 rfl (by omega) (by show _ + 1 ≤ _; omega) (fun G3 hn3 hl3 hg3 => ?_)
    refine rq_st 133 rfl rfl ?_
    refine rk_call 2 100 [_] _ 136 rfl rfl rfl rfl rfl (Nat.le_of_ble_eq_true rfl) (cats rfl) (rcv_s rfl hn3) (p_X3_init d hn3 (by omega)) rfl (by omega) (by omega) (fun v9 G4 hv9 => ?_)
    obtain ⟨rfl, hl4, hg4, hm4⟩ := hv9
    have ho4 := (hg4.obj (by omega) (by omega)).trans ((hg3.obj (by omega) id).trans ho2)
    refine rk_putr 139 rfl ho4 (Nat.le_of_ble_eq_true rfl) rfl rfl (fun G5 ho5 hl5 hg5 => ?_)
    have hm5 := hm4.gm hg5 (fun k hk => by omega)
    refine rq_st 140 rfl rfl ?_
    refine rk_obj 143 1 96 (47) rfl (by decide) (by omega) rfl (by omega) (by show _ + 4 ≤ _; omega) (fun G6 hn6 hl6 hg6 => ?_)
    refine rq_st 144 rfl rfl ?_
    refine rk_call 0 0 [_] _ 147 rfl rfl rfl rfl rfl (Nat.le_of_ble_eq_true rfl) (cats rfl) (rcv_s rfl hn6) (p_X2_init d hn6 (by omega)) rfl (by omega) (by omega) (fun v8 G7 hv8 => ?_)
    obtain ⟨rfl, hl7, hg7, hc7⟩ := hv8
    have ho7 := (hg7.obj (by omega) (by omega)).trans ((hg6.obj (by omega) id).trans ho5)
    refine rk_putr 150 rfl ho7 (Nat.le_of_ble_eq_true rfl) rfl rfl (fun G8 ho8 hl8 hg8 => ?_)
    have hA : gm (fun x => x = 1 ∨ 45 ≤ x) G2 G8 := (((((gmF hg3).tr (hg4.mono (fun a _ h => Or.inr (by omega)))).tr (hg5.mono (fun a _ h => Or.inl h))).tr (gmF hg6)).tr (hg7.mono (fun a _ h => Or.inr (by omega)))).tr (hg8.mono (fun a _ h => Or.inl h))
    have hm8 := ((hm5.gm hg6 (fun k hk => id)).gm hg7 (fun k hk => by omega)).gm hg8 (fun k hk => by omega)
    have hc8 : co G8 47 (fun _ => 0) 0 0 0 := ⟨(hg8.obj (by omega) (by omega)).trans hc7.1, (hg8.ints (by omega) (by omega)).trans hc7.2⟩
    exact rk_vret rfl rfl ⟨rfl, by omega, hg.tr (hA.mono (fun a ha h => h.elim id (fun h => absurd ha (by omega)))), ho8, hF1.gm hA (fun a h1 h2 q => by omega), hF2.gm hA (fun a h1 h2 q => by omega), hF3.gm hA (fun a h1 h2 q => by omega), hm8, hc8⟩
  have loop3 : ∀ (m s : Nat) (G2 : ma_G) (f : Nat → Option Nat), s + m = 3 → G2.length = 33 + 4 * s → ma_obj G2 1 6 = some [.ref 2, .ref 6, .ref 7, .ref 32, .null, .null] → F1 G2 → F2 G2 → ma_refs G2 32 = some (5, 3, f) → (∀ u, u < s → f u = some (33 + 4 * u)) → (∀ u, u < s → sk G2 (33 + 4 * u) (fun _ => 0) (fun _ => 0) (fun _ => 0) (nI 0) (nI 0) (nI 0)) → gm (fun x => x = 1) G G2 → Rq (d + 1) M_X6_init 104 [some (.ref 1), some (.int (nI s))] [] G2 (Qk (4 * m + 4) (202 * m + 113) (fun r G2 => r = none ∧ G2.length = 49 ∧ gm (fun x => x = 1) G G2 ∧ clI G2)) := by
    intro m
    induction m with
    | zero =>
      intro s G2 f hs hl2 ho2 hF1 hF2 hf hfb hsk hg
      refine rq_st 105 rfl rfl ?_
      refine rq_ic 106 (nI 3) rfl (by decide) rfl ?_
      refine rq_cmpt rfl ((ma_cmpN (by omega) (by omega)).mpr (by show 3 ≤ s; omega)) ?_
      obtain rfl : s = 3 := by omega
      exact J128 _ G2 (by omega) ho2 hF1 hF2 ⟨⟨f, hf, hfb⟩, hsk⟩ hg
    | succ m ih =>
      intro s G2 f hs hl2 ho2 hF1 hF2 hf hfb hsk hg
      refine rq_st 105 rfl rfl ?_
      refine rq_ic 106 (nI 3) rfl (by decide) rfl ?_
      refine rq_cmpf 109 rfl rfl (by rw [← Bool.not_eq_true, ma_cmpN (by omega) (by omega)]; show ¬ 3 ≤ s; omega) ?_
      refine rq_st 110 rfl rfl ?_
      refine rq_getf 113 rfl ho2 rfl rfl ?_
      refine rq_st 114 rfl rfl ?_
      refine rk_obj 117 (4 * m + 7) (202 * m + 309) (33 + 4 * s) rfl (by decide) hl2 rfl (by omega) (by show _ + 6 ≤ _; omega) (fun G3 hn3 hl3 hg3 => ?_)
      refine rq_st 118 rfl rfl ?_
      refine rk_call (4 * m + 4) (202 * m + 113) [_] _ 121 rfl rfl rfl rfl rfl (Nat.le_of_ble_eq_true rfl) (cats rfl) (rcv_s rfl hn3) (p_X5_init d hn3 (by omega)) rfl (by omega) (by omega) (fun v9 G4 hv9 => ?_)
      obtain ⟨rfl, hl4, hg4, hs4⟩ := hv9
      have hf4 := (hg4.refs (by omega) (by omega)).trans ((hg3.refs (by omega) id).trans hf)
      refine rk_aasg 122 rfl hf4 (by decide) (by omega) (by decide) rfl hs4.1 rfl (fun G5 hf5 hl5 hg5 => ?_)
      refine rq_incN 125 _ rfl rfl (nI_1 _) rfl rfl ?_
      refine rq_st 104 rfl rfl ?_
      have hA : gm (fun x => x = 32 ∨ x = 33 + 4 * s) G2 G5 := ((gmF hg3).tr (hg4.mono (fun a _ h => Or.inr h))).tr (hg5.mono (fun a _ h => Or.inl h))
      exact ih (s + 1) G5 _ (by omega) (by omega) ((hA.obj (by omega) (by omega)).trans ho2) (hF1.gm hA (fun a h1 h2 q => by omega)) (hF2.gm hA (fun a h1 h2 q => by omega)) hf5 (fun u hu => by
        by_cases e : u = s
        · rw [e]; exact va_up_y
        · rw [va_up_o e]; exact hfb u (by omega)) (fun u hu => by
        by_cases e : u = s
        · rw [e]; exact hs4.gm hg5 (fun k hk => by omega)
        · exact (hsk u (by omega)).gm hA (fun k hk => by omega)) (hg.trn hA (fun a ha h => by omega))
  have J94 : ∀ (o1 : Option Value) (G2 : ma_G), G2.length = 32 → ma_obj G2 1 6 = some [.ref 2, .ref 6, .ref 7, .null, .null, .null] → F1 G2 → F2 G2 → gm (fun x => x = 1) G G2 → Rq (d + 1) M_X6_init 94 [some (.ref 1), o1] [] G2 (Qk 17 722 (fun r G2 => r = none ∧ G2.length = 49 ∧ gm (fun x => x = 1) G G2 ∧ clI G2)) := by
    intro o1 G2 hl2 ho2 hF1 hF2 hg
    refine rq_st 95 rfl rfl ?_
    refine rq_ic 96 (nI 3) rfl (by decide) rfl ?_
    refine rk_arrR 99 102 16 719 3 rfl (by decide) rfl rfl rfl ho2 (Nat.le_of_ble_eq_true rfl) rfl (by decide) hl2 (by decide) (by decide) (fun G3 ho3 hf3 hl3 hg3 => ?_)
    refine rq_ic 103 (nI 0) rfl (by decide) rfl ?_
    refine rq_st 104 rfl rfl ?_
    exact loop3 3 0 G3 _ (by omega) (by omega) ho3 (hF1.gm hg3 (fun a h1 h2 q => by omega)) (hF2.gm hg3 (fun a h1 h2 q => by omega)) hf3 (fun u hu => absurd hu (Nat.not_lt_zero u)) (fun u hu => absurd hu (Nat.not_lt_zero u)) (hg.trn hg3 (fun a ha h => h))
  have loop2 : ∀ (m c : Nat) (G2 : ma_G) (f f7 : Nat → Option Nat), c + m = 4 → G2.length = 8 + 6 * c → ma_obj G2 1 6 = some [.ref 2, .ref 6, .ref 7, .null, .null, .null] → F1 G2 → ma_refs G2 6 = some (3, 4, f) → (∀ u, u < c → f u = some (8 + 6 * u)) → ma_refs G2 7 = some (4, 4, f7) → (∀ u, u < c → f7 u = some (11 + 6 * u)) → (∀ u, u < c → bk G2 (8 + 6 * u) (fun _ => 0) (fun _ => 0) 0 ∧ cl G2 (11 + 6 * u) u (fun _ => 0) (fun _ => 0)) → gm (fun x => x = 1) G G2 → Rq (d + 1) M_X6_init 56 [some (.ref 1), some (.int (nI c))] [] G2 (Qk (6 * m + 17) (146 * m + 722) (fun r G2 => r = none ∧ G2.length = 49 ∧ gm (fun x => x = 1) G G2 ∧ clI G2)) := by
    intro m
    induction m with
    | zero =>
      intro c G2 f f7 hc hl2 ho2 hF1 hf hfb hf7 hf7b hbc hg
      refine rq_st 57 rfl rfl ?_
      refine rq_ic 58 (nI 4) rfl (by decide) rfl ?_
      refine rq_cmpt rfl ((ma_cmpN (by omega) (by omega)).mpr (by show 4 ≤ c; omega)) ?_
      obtain rfl : c = 4 := by omega
      exact J94 _ G2 (by omega) ho2 hF1 ⟨⟨f, hf, hfb⟩, ⟨f7, hf7, hf7b⟩, hbc⟩ hg
    | succ m ih =>
      intro c G2 f f7 hc hl2 ho2 hF1 hf hfb hf7 hf7b hbc hg
      refine rq_st 57 rfl rfl ?_
      refine rq_ic 58 (nI 4) rfl (by decide) rfl ?_
      refine rq_cmpf 61 rfl rfl (by rw [← Bool.not_eq_true, ma_cmpN (by omega) (by omega)]; show ¬ 4 ≤ c; omega) ?_
      refine rq_st 62 rfl rfl ?_
      refine rq_getf 65 rfl ho2 rfl rfl ?_
      refine rq_st 66 rfl rfl ?_
      refine rk_obj 69 (6 * m + 22) (146 * m + 865) (8 + 6 * c) rfl (by decide) hl2 rfl (by omega) (by show _ + 3 ≤ _; omega) (fun G3 hn3 hl3 hg3 => ?_)
      refine rq_st 70 rfl rfl ?_
      refine rk_call (6 * m + 20) (146 * m + 745) [_] _ 73 rfl rfl rfl rfl rfl (Nat.le_of_ble_eq_true rfl) (cats rfl) (rcv_s rfl hn3) (p_X0_init d hn3 (by omega)) rfl (by omega) (by omega) (fun v9 G4 hv9 => ?_)
      obtain ⟨rfl, hl4, hg4, hb4⟩ := hv9
      have hf4 := (hg4.refs (by omega) (by omega)).trans ((hg3.refs (by omega) id).trans hf)
      have ho4 := (hg4.obj (by omega) (by omega)).trans ((hg3.obj (by omega) id).trans ho2)
      have hf74 := (hg4.refs (by omega) (by omega)).trans ((hg3.refs (by omega) id).trans hf7)
      refine rk_aasg 74 rfl hf4 (by decide) (by omega) (by decide) rfl hb4.1 rfl (fun G5 hf5 hl5 hg5 => ?_)
      have ho5 := (hg5.obj (by omega) (by omega)).trans ho4
      have hf75 := (hg5.refs (by omega) (by omega)).trans hf74
      refine rq_st 75 rfl rfl ?_
      refine rq_getf 78 rfl ho5 rfl rfl ?_
      refine rq_st 79 rfl rfl ?_
      refine rk_obj 82 (6 * m + 19) (146 * m + 742) (11 + 6 * c) rfl (by decide) (by omega) rfl (by omega) (by show _ + 3 ≤ _; omega) (fun G6 hn6 hl6 hg6 => ?_)
      refine rq_st 83 rfl rfl ?_
      refine rq_st 84 rfl rfl ?_
      refine rk_call (6 * m + 17) (146 * m + 722) [_, _] _ 87 rfl rfl rfl rfl rfl (Nat.le_of_ble_eq_true rfl) (cats rfl) (rcv_s rfl hn6) (p_X1_init d hn6 (by omega)) rfl (by omega) (by omega) (fun v8 G7 hv8 => ?_)
      obtain ⟨rfl, hl7, hg7, hc7⟩ := hv8
      have hf77 := (hg7.refs (by omega) (by omega)).trans ((hg6.refs (by omega) id).trans hf75)
      refine rk_aasg 88 rfl hf77 (by decide) (by omega) (by decide) rfl hc7.1 rfl (fun G8 hf78 hl8 hg8 => ?_)
      refine rq_incN 91 _ rfl rfl (nI_1 _) rfl rfl ?_
      refine rq_st 56 rfl rfl ?_
      have hA : gm (fun x => x = 6 ∨ x = 7 ∨ x = 8 + 6 * c ∨ x = 11 + 6 * c) G2 G8 := ((((((gmF hg3).tr (hg4.mono (fun a _ h => by omega))).tr (hg5.mono (fun a _ h => by omega))).tr (gmF hg6)).tr (hg7.mono (fun a _ h => by omega)))).tr (hg8.mono (fun a _ h => by omega))
      have hb8 := (((hb4.gm hg5 (fun k hk => by omega)).gm hg6 (fun k hk => id)).gm hg7 (fun k hk => by omega)).gm hg8 (fun k hk => by omega)
      have hf8 := (hg8.refs (by omega) (by omega)).trans ((hg7.refs (by omega) (by omega)).trans ((hg6.refs (by omega) id).trans hf5))
      exact ih (c + 1) G8 _ _ (by omega) (by omega) ((hA.obj (by omega) (by omega)).trans ho2) (hF1.gm hA (fun a h1 h2 q => by omega)) hf8 (fun u hu => by
        by_cases e : u = c
        · rw [e]; exact va_up_y
        · rw [va_up_o e]; exact hfb u (by omega)) hf78 (fun u hu => by
        by_cases e : u = c
        · rw [e]; exact va_up_y
        · rw [va_up_o e]; exact hf7b u (by omega)) (fun u hu => by
        by_cases e : u = c
        · rw [e]; exact ⟨hb8, hc7.gm hg8 (fun k hk => by omega)⟩
        · exact ⟨(hbc u (by omega)).1.gm hA (fun k hk => by omega), (hbc u (by omega)).2.gm hA (fun k hk => by omega)⟩) (hg.trn hA (fun a ha h => by omega))
  have J38 : ∀ (o1 : Option Value) (G2 : ma_G), G2.length = 6 → ma_obj G2 1 6 = some [.ref 2, .null, .null, .null, .null, .null] → F1 G2 → gm (fun x => x = 1) G G2 → Rq (d + 1) M_X6_init 38 [some (.ref 1), o1] [] G2 (Qk 43 1314 (fun r G2 => r = none ∧ G2.length = 49 ∧ gm (fun x => x = 1) G G2 ∧ clI G2)) := by
    intro o1 G2 hl2 ho2 hF1 hg
    refine rq_st 39 rfl rfl ?_
    refine rq_ic 40 (nI 4) rfl (by decide) rfl ?_
    refine rk_arrR 43 46 42 1310 4 rfl (by decide) rfl rfl rfl ho2 (Nat.le_of_ble_eq_true rfl) rfl (by decide) hl2 (by decide) (by decide) (fun G3 ho3 hf3 hl3 hg3 => ?_)
    refine rq_st 47 rfl rfl ?_
    refine rq_ic 48 (nI 4) rfl (by decide) rfl ?_
    refine rk_arrR 51 54 41 1306 4 rfl (by decide) rfl rfl rfl ho3 (Nat.le_of_ble_eq_true rfl) rfl (by decide) hl3 (by decide) (by decide) (fun G4 ho4 hf4 hl4 hg4 => ?_)
    refine rq_ic 55 (nI 0) rfl (by decide) rfl ?_
    refine rq_st 56 rfl rfl ?_
    exact loop2 4 0 G4 _ _ (by omega) (by omega) ho4 ((hF1.gm hg3 (fun a h1 h2 q => by omega)).gm hg4 (fun a h1 h2 q => by omega)) ((hg4.refs (by omega) (by omega)).trans hf3) (fun u hu => absurd hu (Nat.not_lt_zero u)) hf4 (fun u hu => absurd hu (Nat.not_lt_zero u)) (fun u hu => absurd hu (Nat.not_lt_zero u)) (hg.trn (hg3.tr hg4) (fun a ha h => h))
  have loop1 : ∀ (m v : Nat) (G2 : ma_G) (f : Nat → Option Nat), v + m = 3 → G2.length = 3 + v → ma_obj G2 1 6 = some [.ref 2, .null, .null, .null, .null, .null] → ma_refs G2 2 = some (2, 3, f) → (∀ u, u < v → f u = some (3 + u)) → (∀ u, u < v → sc G2 (3 + u) 1 (fun _ => 0)) → gm (fun x => x = 1) G G2 → Rq (d + 1) M_X6_init 14 [some (.ref 1), some (.int (nI v))] [] G2 (Qk (m + 43) (4 * m + 1314) (fun r G2 => r = none ∧ G2.length = 49 ∧ gm (fun x => x = 1) G G2 ∧ clI G2)) := by
    intro m
    induction m with
    | zero =>
      intro v G2 f hv hl2 ho2 hf hfb hsc hg
      refine rq_st 15 rfl rfl ?_
      refine rq_ic 16 (nI 3) rfl (by decide) rfl ?_
      refine rq_cmpt rfl ((ma_cmpN (by omega) (by omega)).mpr (by show 3 ≤ v; omega)) ?_
      obtain rfl : v = 3 := by omega
      exact J38 _ G2 (by omega) ho2 ⟨⟨f, hf, hfb⟩, hsc⟩ hg
    | succ m ih =>
      intro v G2 f hv hl2 ho2 hf hfb hsc hg
      refine rq_st 15 rfl rfl ?_
      refine rq_ic 16 (nI 3) rfl (by decide) rfl ?_
      refine rq_cmpf 19 rfl rfl (by rw [← Bool.not_eq_true, ma_cmpN (by omega) (by omega)]; show ¬ 3 ≤ v; omega) ?_
      refine rq_st 20 rfl rfl ?_
      refine rq_getf 23 rfl ho2 rfl rfl ?_
      refine rq_st 24 rfl rfl ?_
      refine rk_obj 27 (m + 43) (4 * m + 1314) (3 + v) rfl (by decide) hl2 rfl (by omega) (by show _ + 4 ≤ _; omega) (fun G3 hn3 hl3 hg3 => ?_)
      refine rq_st 28 rfl rfl ?_
      refine rk_call (m + 43) (4 * m + 1314) [_] _ 31 rfl rfl rfl rfl rfl (Nat.le_of_ble_eq_true rfl) (cats rfl) (rcv_s rfl hn3) (p_X4_init d hn3 (by omega)) rfl (by omega) (by omega) (fun v9 G4 hv9 => ?_)
      obtain ⟨rfl, hl4, hg4, hs4⟩ := hv9
      have hf4 := (hg4.refs (by omega) (by omega)).trans ((hg3.refs (by omega) id).trans hf)
      refine rk_aasg 32 rfl hf4 (by decide) (by omega) (by decide) rfl hs4 rfl (fun G5 hf5 hl5 hg5 => ?_)
      refine rq_incN 35 _ rfl rfl (nI_1 _) rfl rfl ?_
      refine rq_st 14 rfl rfl ?_
      have hA : gm (fun x => x = 2 ∨ x = 3 + v) G2 G5 := ((gmF hg3).tr (hg4.mono (fun a _ h => Or.inr h))).tr (hg5.mono (fun a _ h => Or.inl h))
      exact ih (v + 1) G5 _ (by omega) (by omega) ((hA.obj (by omega) (by omega)).trans ho2) hf5 (fun u hu => by
        by_cases e : u = v
        · rw [e]; exact va_up_y
        · rw [va_up_o e]; exact hfb u (by omega)) (fun u hu => by
        by_cases e : u = v
        · rw [e]; exact hs4.gm hg5 (by omega)
        · exact (hsc u (by omega)).gm hA (by omega)) (hg.trn hA (fun a ha h => by omega))
  refine rq_st 1 rfl rfl ?_
  refine rq_st 4 rfl rfl ?_
  refine rq_st 5 rfl rfl ?_
  refine rq_ic 6 (nI 3) rfl (by decide) rfl ?_
  refine rk_arrR 9 12 46 1326 3 rfl (by decide) rfl rfl rfl ho (Nat.le_of_ble_eq_true rfl) rfl (by decide) hl (by decide) (by decide) (fun G3 ho3 hf3 hl3 hg3 => ?_)
  refine rq_ic 13 (nI 0) rfl (by decide) rfl ?_
  refine rq_st 14 rfl rfl ?_
  exact loop1 3 0 G3 _ (by omega) (by omega) ho3 hf3 (fun u hu => absurd hu (Nat.not_lt_zero u)) (fun u hu => absurd hu (Nat.not_lt_zero u)) hg3
