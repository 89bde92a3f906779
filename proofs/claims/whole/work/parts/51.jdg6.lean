def nIn : Nat → Prop := fun x => 45 ≤ x ∧ x < 49
theorem sm46 {G G' : ma_G} (h : sm (fun x => x = 46) G G') : sm nIn G G' := h.mono (fun a h => by subst h; exact ⟨by decide, by decide⟩)
theorem sm47 {G G' : ma_G} (h : sm (cIn2 47) G G') : sm nIn G G' := h.mono (fun a h => ⟨by have := h.1; omega, by have := h.2; omega⟩)
def jq6 (A : Nat → Nat → Int32) (kn : Nat → Nat → Nat) (c p v z : Nat) (G : ma_G) (r : Option Value) (G' : ma_G) : Prop := r = none ∧ sm nIn G G' ∧ (∃ g, nmp G' 45 g) ∧ ∃ D sz k ld f lt, co G' 47 D sz k ld ∧ jd A kn c p v z f k lt ∧ (0 < k → ld = lt)
theorem p_X6_judge (d : Nat) {G : ma_G} {A : Nat → Nat → Int32} {n : Nat → Nat} {kn : Nat → Nat → Nat} {hr : Nat → Nat → Nat → Nat} (hR : cRd A n kn hr G) (hk : mKn A n kn) {dz : Nat → Nat} (hSc : cSc A dz G) (hdz : mDz A dz) {g0 : Nat → Int32} (hm0 : nmp G 45 g0) {D0 : Nat → Int32} {sz0 k0 : Nat} {ld0 : Int32} (hc0 : co G 47 D0 sz0 k0 ld0) (c : Nat) (hc : c < 4) (hwd : wfD A kn c) (hws : wfS A kn c) (p : Nat) (hp : p < 12) (v : Nat) (hv : v < 3) : Cq (d + 6) 76 [.ref 1, .int (nI c), .int (nI p), .int (nI v)] G (jq6 A kn c p v (dz v) G) := by
  refine cq_of rfl ?_
  refine rq_st 1 rfl rfl ?_
  refine rq_st 2 rfl rfl ?_
  refine rq_callq [_, _] _ 5 rfl rfl rfl rfl rfl (Nat.le_of_ble_eq_true rfl) (cats rfl) (rcv_s rfl hR.1.1) (p_X6_readNames (d + 1) hR hk hm0 c hc hws) rfl (fun v9 G3 hv9 => ?_)
  obtain ⟨rfl, hs3, f, g3, hm3, hg3, hf⟩ := hv9
  have hR3 := hR.sm hs3 (fun a h1 h2 q => by omega)
  have hSc3 := hSc.sm hs3 (fun a h1 h2 q => by omega)
  have hc3 := hc0.sm hs3 (fun q => by omega) (fun q => by omega)
  refine rq_st 6 rfl rfl ?_
  refine rq_st 7 rfl rfl ?_
  refine rq_st 8 rfl rfl ?_
  refine rq_getf 11 rfl hR3.1.1 rfl rfl ?_
  refine rq_st 12 rfl rfl ?_
  refine rq_call [_, _] _ 15 rfl rfl rfl rfl rfl (Nat.le_of_ble_eq_true rfl) (cats rfl) (rcv_s rfl hm3.1) (p_X3_of (d + 3) hm3 hg3 p hp) rfl ?_
  refine rq_st 16 rfl rfl ?_
  refine rq_callq [_, _, _, _] _ 19 rfl rfl rfl rfl rfl (Nat.le_of_ble_eq_true rfl) (cats rfl) (rcv_s rfl hR3.1.1) (p_X6_readCourse d hR3 hk hSc3 hdz hc3 c hc hwd hm3 hg3 (f p) (hg3 p hp).2 v hv) rfl (fun v8 G4 hv8 => ?_)
  obtain ⟨rfl, hs4, D4, sz4, k4, ld4, hc4, lt4, hj4, hkz4, hlt4⟩ := hv8
  exact rq_vret rfl rfl ⟨rfl, (sm46 hs3).tr (sm47 hs4), ⟨g3, hm3.sm hs4 (fun q => absurd q.1 (by omega)) (fun q => absurd q.1 (by omega))⟩, D4, sz4, k4, ld4, f, lt4, hc4, ⟨hf, hj4, hkz4⟩, hlt4⟩
theorem p_reqCase_y (d : Nat) {c p v : Int32} (h : okMy c p v) (G : ma_G) : Ca (d + 3) 75 [.int c, .int p, .int v] G (.inl none, G, 0, 0) := by
  refine ca_of rfl ?_
  refine ru_st 1 rfl rfl ?_
  refine ru_call [_] _ 4 rfl rfl rfl rfl rfl (Nat.le_of_ble_eq_true rfl) (cats rfl) (rcv_n rfl) (p_reqClinic_y d h.1 _) rfl ?_
  refine ru_st 5 rfl rfl ?_
  refine ru_call [_] _ 8 rfl rfl rfl rfl rfl (Nat.le_of_ble_eq_true rfl) (cats rfl) (rcv_n rfl) (p_reqPerson_y d h.2.1 _) rfl ?_
  refine ru_st 9 rfl rfl ?_
  refine ru_call [_] _ 12 rfl rfl rfl rfl rfl (Nat.le_of_ble_eq_true rfl) (cats rfl) (rcv_n rfl) (p_reqVaccine_y d h.2.2 _) rfl ?_
  exact ru_vret rfl rfl
theorem p_reqCase_n (d : Nat) {c p v : Int32} (h : ¬ okMy c p v) (G : ma_G) : Ca (d + 5) 75 [.int c, .int p, .int v] G (.inr 8001, G, 1, 6) := by
  refine ca_of rfl ?_
  refine ru_st 1 rfl rfl ?_
  by_cases hq1 : inN c 4
  rotate_left
  · exact ru_callt [_] _ rfl rfl rfl rfl rfl (Nat.le_of_ble_eq_true rfl) (cats rfl) (rcv_n rfl) (p_reqClinic_n d hq1 _) rfl rfl
  refine ru_call [_] _ 4 rfl rfl rfl rfl rfl (Nat.le_of_ble_eq_true rfl) (cats rfl) (rcv_n rfl) (p_reqClinic_y (d + 2) hq1 _) rfl ?_
  refine ru_st 5 rfl rfl ?_
  by_cases hq5 : inN p 12
  rotate_left
  · exact ru_callt [_] _ rfl rfl rfl rfl rfl (Nat.le_of_ble_eq_true rfl) (cats rfl) (rcv_n rfl) (p_reqPerson_n d hq5 _) rfl rfl
  refine ru_call [_] _ 8 rfl rfl rfl rfl rfl (Nat.le_of_ble_eq_true rfl) (cats rfl) (rcv_n rfl) (p_reqPerson_y (d + 2) hq5 _) rfl ?_
  refine ru_st 9 rfl rfl ?_
  by_cases hq9 : inN v 3
  rotate_left
  · exact ru_callt [_] _ rfl rfl rfl rfl rfl (Nat.le_of_ble_eq_true rfl) (cats rfl) (rcv_n rfl) (p_reqVaccine_n d hq9 _) rfl rfl
  refine ru_call [_] _ 12 rfl rfl rfl rfl rfl (Nat.le_of_ble_eq_true rfl) (cats rfl) (rcv_n rfl) (p_reqVaccine_y (d + 2) hq9 _) rfl ?_
  exact absurd ⟨hq1, hq5, hq9⟩ h
def cj6 (A : Nat → Nat → Int32) (kn : Nat → Nat → Nat) (c p v z : Nat) (G : ma_G) (Rf : Nat → Int32 → Int32) (r : Option Value) (G' : ma_G) : Prop := sm nIn G G' ∧ (∃ g, nmp G' 45 g) ∧ (∃ D sz k ld, co G' 47 D sz k ld) ∧ ∃ f k lt, jd A kn c p v z f k lt ∧ r = some (.int (Rf k lt))
theorem p_X6_counting (d : Nat) {G : ma_G} {A : Nat → Nat → Int32} {n : Nat → Nat} {kn : Nat → Nat → Nat} {hr : Nat → Nat → Nat → Nat} (hR : cRd A n kn hr G) (hk : mKn A n kn) {dz : Nat → Nat} (hSc : cSc A dz G) (hdz : mDz A dz) {g0 : Nat → Int32} (hm0 : nmp G 45 g0) {D0 : Nat → Int32} {sz0 k0 : Nat} {ld0 : Int32} (hc0 : co G 47 D0 sz0 k0 ld0) (c : Nat) (hc : c < 4) (hwd : wfD A kn c) (hws : wfS A kn c) (p : Nat) (hp : p < 12) (v : Nat) (hv : v < 3) : Cq (d + 7) 74 [.ref 1, .int (nI c), .int (nI p), .int (nI v)] G (cj6 A kn c p v (dz v) G (fun k lt => nI k)) := by
  refine cq_of rfl ?_
  refine rq_st 1 rfl rfl ?_
  refine rq_st 2 rfl rfl ?_
  refine rq_st 3 rfl rfl ?_
  refine rq_call [_, _, _] _ 6 rfl rfl rfl rfl rfl (Nat.le_of_ble_eq_true rfl) (cats rfl) (rcv_n rfl) (p_reqCase_y (d + 3) ⟨⟨c, hc, rfl⟩, ⟨p, hp, rfl⟩, ⟨v, hv, rfl⟩⟩ _) rfl ?_
  refine rq_st 7 rfl rfl ?_
  refine rq_st 8 rfl rfl ?_
  refine rq_st 9 rfl rfl ?_
  refine rq_st 10 rfl rfl ?_
  refine rq_callq [_, _, _, _] _ 13 rfl rfl rfl rfl rfl (Nat.le_of_ble_eq_true rfl) (cats rfl) (rcv_s rfl hR.1.1) (p_X6_judge d hR hk hSc hdz hm0 hc0 c hc hwd hws p hp v hv) rfl (fun v9 G3 hv9 => ?_)
  obtain ⟨rfl, hs3, hm3, D3, sz3, k, ld, f, lt, hc3, hj, hlt⟩ := hv9
  have hsh3 := hR.1.sm hs3 (fun q => absurd q.1 (by omega)) (fun q => absurd q.1 (by omega)) (fun q => absurd q.1 (by omega)) (fun q => absurd q.1 (by omega)) (fun q => absurd q.1 (by omega))
  obtain ⟨hx3, ⟨f2, hf2, hf2b⟩, -⟩ := id hsh3
  have hSc3 := hSc.sm hs3 (fun a h1 h2 q => absurd q.1 (by omega))
  have hz0 := hdz v hv
  have hkz := hj.2.2
  refine rq_st 14 rfl rfl ?_
  refine rq_getf 17 rfl hx3 rfl rfl ?_
  refine rq_call [_] _ 20 rfl rfl rfl rfl rfl (Nat.le_of_ble_eq_true rfl) (cats rfl) (rcv_s rfl hc3.1) (p_X2_counted (d + 5) hc3) rfl ?_
  exact rq_iret rfl rfl rfl ⟨hs3, hm3, ⟨_, _, _, _, hc3⟩, f, k, lt, hj, rfl⟩
theorem p_X6_counting_bad (d : Nat) {G : ma_G} {c p v : Int32} (h : ¬ okMy c p v) : Ca (d + 6) 74 [.ref 1, .int c, .int p, .int v] G (.inr 8001, G, 1, 6) := by
  refine ca_of rfl ?_
  refine ru_st 1 rfl rfl ?_
  refine ru_st 2 rfl rfl ?_
  refine ru_st 3 rfl rfl ?_
  exact ru_callt [_, _, _] _ rfl rfl rfl rfl rfl (Nat.le_of_ble_eq_true rfl) (cats rfl) (rcv_n rfl) (p_reqCase_n d h _) rfl rfl
theorem p_X6_protectedDay (d : Nat) {G : ma_G} {A : Nat → Nat → Int32} {n : Nat → Nat} {kn : Nat → Nat → Nat} {hr : Nat → Nat → Nat → Nat} (hR : cRd A n kn hr G) (hk : mKn A n kn) {dz : Nat → Nat} (hSc : cSc A dz G) (hdz : mDz A dz) {g0 : Nat → Int32} (hm0 : nmp G 45 g0) {D0 : Nat → Int32} {sz0 k0 : Nat} {ld0 : Int32} (hc0 : co G 47 D0 sz0 k0 ld0) (c : Nat) (hc : c < 4) (hwd : wfD A kn c) (hws : wfS A kn c) (p : Nat) (hp : p < 12) (v : Nat) (hv : v < 3) : Cq (d + 7) 89 [.ref 1, .int (nI c), .int (nI p), .int (nI v)] G (cj6 A kn c p v (dz v) G (fun k lt => if k = dz v then lt else -1)) := by
  refine cq_of rfl ?_
  refine rq_st 1 rfl rfl ?_
  refine rq_st 2 rfl rfl ?_
  refine rq_st 3 rfl rfl ?_
  refine rq_call [_, _, _] _ 6 rfl rfl rfl rfl rfl (Nat.le_of_ble_eq_true rfl) (cats rfl) (rcv_n rfl) (p_reqCase_y (d + 3) ⟨⟨c, hc, rfl⟩, ⟨p, hp, rfl⟩, ⟨v, hv, rfl⟩⟩ _) rfl ?_
  refine rq_st 7 rfl rfl ?_
  refine rq_st 8 rfl rfl ?_
  refine rq_st 9 rfl rfl ?_
  refine rq_st 10 rfl rfl ?_
  refine rq_callq [_, _, _, _] _ 13 rfl rfl rfl rfl rfl (Nat.le_of_ble_eq_true rfl) (cats rfl) (rcv_s rfl hR.1.1) (p_X6_judge d hR hk hSc hdz hm0 hc0 c hc hwd hws p hp v hv) rfl (fun v9 G3 hv9 => ?_)
  obtain ⟨rfl, hs3, hm3, D3, sz3, k, ld, f, lt, hc3, hj, hlt⟩ := hv9
  have hsh3 := hR.1.sm hs3 (fun q => absurd q.1 (by omega)) (fun q => absurd q.1 (by omega)) (fun q => absurd q.1 (by omega)) (fun q => absurd q.1 (by omega)) (fun q => absurd q.1 (by omega))
  obtain ⟨hx3, ⟨f2, hf2, hf2b⟩, -⟩ := id hsh3
  have hSc3 := hSc.sm hs3 (fun a h1 h2 q => absurd q.1 (by omega))
  have hz0 := hdz v hv
  have hkz := hj.2.2
  refine rq_st 14 rfl rfl ?_
  refine rq_getf 17 rfl hx3 rfl rfl ?_
  refine rq_st 18 rfl rfl ?_
  refine rq_getf 21 rfl hx3 rfl rfl ?_
  refine rq_st 22 rfl rfl ?_
  refine rq_aalN 23 rfl hf2 (by omega) (by decide) (hf2b v hv) rfl ?_
  refine rq_call [_, _] _ 26 rfl rfl rfl rfl rfl (Nat.le_of_ble_eq_true rfl) (cats rfl) (rcv_s rfl hc3.1) (p_X2_protectedFrom (d + 4) hc3 (hSc3 v hv) hkz hz0.2.1 hz0.2.2) rfl ?_
  exact rq_iret rfl rfl rfl ⟨hs3, hm3, ⟨_, _, _, _, hc3⟩, f, k, lt, hj, by
  dsimp only
  by_cases q : k = dz v
  · rw [if_pos q, if_pos q, hlt (by omega)]
  · rw [if_neg q, if_neg q]⟩
theorem p_X6_protectedDay_bad (d : Nat) {G : ma_G} {c p v : Int32} (h : ¬ okMy c p v) : Ca (d + 6) 89 [.ref 1, .int c, .int p, .int v] G (.inr 8001, G, 1, 6) := by
  refine ca_of rfl ?_
  refine ru_st 1 rfl rfl ?_
  refine ru_st 2 rfl rfl ?_
  refine ru_st 3 rfl rfl ?_
  exact ru_callt [_, _, _] _ rfl rfl rfl rfl rfl (Nat.le_of_ble_eq_true rfl) (cats rfl) (rcv_n rfl) (p_reqCase_n d h _) rfl rfl
theorem p_X6_due (d : Nat) {G : ma_G} {A : Nat → Nat → Int32} {n : Nat → Nat} {kn : Nat → Nat → Nat} {hr : Nat → Nat → Nat → Nat} (hR : cRd A n kn hr G) (hk : mKn A n kn) {dz : Nat → Nat} (hSc : cSc A dz G) (hdz : mDz A dz) {g0 : Nat → Int32} (hm0 : nmp G 45 g0) {D0 : Nat → Int32} {sz0 k0 : Nat} {ld0 : Int32} (hc0 : co G 47 D0 sz0 k0 ld0) (c : Nat) (hc : c < 4) (hwd : wfD A kn c) (hws : wfS A kn c) (p : Nat) (hp : p < 12) (v : Nat) (hv : v < 3) : Cq (d + 7) 92 [.ref 1, .int (nI c), .int (nI p), .int (nI v)] G (cj6 A kn c p v (dz v) G (fun k lt => if k = 0 then nI 0 else if k = dz v then -1 else lt + A 1 (4 * v + k))) := by
  refine cq_of rfl ?_
  refine rq_st 1 rfl rfl ?_
  refine rq_st 2 rfl rfl ?_
  refine rq_st 3 rfl rfl ?_
  refine rq_call [_, _, _] _ 6 rfl rfl rfl rfl rfl (Nat.le_of_ble_eq_true rfl) (cats rfl) (rcv_n rfl) (p_reqCase_y (d + 3) ⟨⟨c, hc, rfl⟩, ⟨p, hp, rfl⟩, ⟨v, hv, rfl⟩⟩ _) rfl ?_
  refine rq_st 7 rfl rfl ?_
  refine rq_st 8 rfl rfl ?_
  refine rq_st 9 rfl rfl ?_
  refine rq_st 10 rfl rfl ?_
  refine rq_callq [_, _, _, _] _ 13 rfl rfl rfl rfl rfl (Nat.le_of_ble_eq_true rfl) (cats rfl) (rcv_s rfl hR.1.1) (p_X6_judge d hR hk hSc hdz hm0 hc0 c hc hwd hws p hp v hv) rfl (fun v9 G3 hv9 => ?_)
  obtain ⟨rfl, hs3, hm3, D3, sz3, k, ld, f, lt, hc3, hj, hlt⟩ := hv9
  have hsh3 := hR.1.sm hs3 (fun q => absurd q.1 (by omega)) (fun q => absurd q.1 (by omega)) (fun q => absurd q.1 (by omega)) (fun q => absurd q.1 (by omega)) (fun q => absurd q.1 (by omega))
  obtain ⟨hx3, ⟨f2, hf2, hf2b⟩, -⟩ := id hsh3
  have hSc3 := hSc.sm hs3 (fun a h1 h2 q => absurd q.1 (by omega))
  have hz0 := hdz v hv
  have hkz := hj.2.2
  refine rq_st 14 rfl rfl ?_
  refine rq_getf 17 rfl hx3 rfl rfl ?_
  refine rq_st 18 rfl rfl ?_
  refine rq_getf 21 rfl hx3 rfl rfl ?_
  refine rq_st 22 rfl rfl ?_
  refine rq_aalN 23 rfl hf2 (by omega) (by decide) (hf2b v hv) rfl ?_
  refine rq_call [_, _] _ 26 rfl rfl rfl rfl rfl (Nat.le_of_ble_eq_true rfl) (cats rfl) (rcv_s rfl hc3.1) (p_X2_nextDay (d + 4) hc3 (hSc3 v hv) hkz hz0.2.1 hz0.2.2) rfl ?_
  exact rq_iret rfl rfl rfl ⟨hs3, hm3, ⟨_, _, _, _, hc3⟩, f, k, lt, hj, by
  dsimp only
  by_cases q : k = 0
  · rw [if_pos q, if_pos q]
  · rw [if_neg q, if_neg q]
    by_cases q2 : k = dz v
    · rw [if_pos q2, if_pos q2]
    · rw [if_neg q2, if_neg q2, hlt (by omega)]⟩
theorem p_X6_due_bad (d : Nat) {G : ma_G} {c p v : Int32} (h : ¬ okMy c p v) : Ca (d + 6) 92 [.ref 1, .int c, .int p, .int v] G (.inr 8001, G, 1, 6) := by
  refine ca_of rfl ?_
  refine ru_st 1 rfl rfl ?_
  refine ru_st 2 rfl rfl ?_
  refine ru_st 3 rfl rfl ?_
  exact ru_callt [_, _, _] _ rfl rfl rfl rfl rfl (Nat.le_of_ble_eq_true rfl) (cats rfl) (rcv_n rfl) (p_reqCase_n d h _) rfl rfl
def ip6 (A : Nat → Nat → Int32) (kn : Nat → Nat → Nat) (c m v z : Nat) (day : Int32) (G : ma_G) (r : Option Value) (G' : ma_G) : Prop := sm (cIn2 47) G G' ∧ (∃ D sz k ld, co G' 47 D sz k ld) ∧ r = some (.int (bI (cvP A kn c v z day m)))
theorem cv_iff2 {A : Nat → Nat → Int32} {kn : Nat → Nat → Nat} {c v z : Nat} {day : Int32} {p : Nat} {f : Nat → Nat} {k : Nat} {l : Int32} (hp : p < 12) (hfp : f p = p) (hj : jd A kn c p v z f k l) : cvP A kn c v z day p ↔ k = z ∧ l ≤ day := by
  constructor
  · rintro ⟨f', k', l', hj', e1, e2, e3⟩
    obtain ⟨g1, g2, g3⟩ := jd_one hp hj hj'
    exact ⟨g2.trans e2, by rw [g3]; exact e3⟩
  · rintro ⟨h1, h2⟩
    exact ⟨f, k, l, hj, hfp, h1, h2⟩
theorem p_X6_isProtectedBy (d : Nat) {G : ma_G} {A : Nat → Nat → Int32} {n : Nat → Nat} {kn : Nat → Nat → Nat} {hr : Nat → Nat → Nat → Nat} (hR : cRd A n kn hr G) (hk : mKn A n kn) {dz : Nat → Nat} (hSc : cSc A dz G) (hdz : mDz A dz) {D0 : Nat → Int32} {sz0 k0 : Nat} {ld0 : Int32} (hc0 : co G 47 D0 sz0 k0 ld0) (c : Nat) (hc : c < 4) (hwd : wfD A kn c) {g : Nat → Int32} {f : Nat → Nat} (hm : nmp G 45 g) (hg : nF g f) (hf : isNm A kn c f) (m : Nat) (hm12 : m < 12) (hfm : f m = m) (v : Nat) (hv : v < 3) (day : Int32) : Cq (d + 6) 96 [.ref 1, .int (nI c), .int (nI m), .int (nI v), .int day] G (ip6 A kn c m v (dz v) day G) := by
  refine cq_of rfl ?_
  refine rq_st 1 rfl rfl ?_
  refine rq_st 2 rfl rfl ?_
  refine rq_st 3 rfl rfl ?_
  refine rq_st 4 rfl rfl ?_
  refine rq_callq [_, _, _, _] _ 7 rfl rfl rfl rfl rfl (Nat.le_of_ble_eq_true rfl) (cats rfl) (rcv_s rfl hR.1.1) (p_X6_readCourse d hR hk hSc hdz hc0 c hc hwd hm hg m hm12 v hv) rfl (fun v8 G3 hv8 => ?_)
  obtain ⟨rfl, hs3, D3, sz3, k, ld, hc3, lt, hj3, hkz, hlt⟩ := hv8
  have hj : jd A kn c m v (dz v) f k lt := ⟨hf, by
    rw [← hj3, show fit A kn c f m v = fitN A kn c f m v from by funext a; unfold fit fitN; rw [hfm]], hkz⟩
  have hcv := cv_iff2 (day := day) hm12 hfm hj
  have hz0 := hdz v hv
  have hsh3 := hR.1.sm hs3 (fun q => absurd q.1 (by omega)) (fun q => absurd q.1 (by omega)) (fun q => absurd q.1 (by omega)) (fun q => absurd q.1 (by omega)) (fun q => absurd q.1 (by omega))
  obtain ⟨hx3, ⟨f2, hf2, hf2b⟩, -⟩ := id hsh3
  have hSc3 := hSc.sm hs3 (fun a h1 h2 q => absurd q.1 (by omega))
  refine rq_st 8 rfl rfl ?_
  refine rq_getf 11 rfl hx3 rfl rfl ?_
  refine rq_st 12 rfl rfl ?_
  refine rq_getf 15 rfl hx3 rfl rfl ?_
  refine rq_st 16 rfl rfl ?_
  refine rq_aalN 17 rfl hf2 (by omega) (by decide) (hf2b v hv) rfl ?_
  refine rq_call [_, _] _ 20 rfl rfl rfl rfl rfl (Nat.le_of_ble_eq_true rfl) (cats rfl) (rcv_s rfl hc3.1) (p_X2_protectedFrom (d + 3) hc3 (hSc3 v hv) hkz hz0.2.1 hz0.2.2) rfl ?_
  by_cases hkq : k = dz v
  rotate_left
  · rw [if_neg hkq]
    refine rq_st 22 rfl rfl ?_
    refine rq_st 24 rfl rfl ?_
    refine rq_ic 25 (-1) rfl (by decide) rfl ?_
    refine rq_cmpt rfl (by decide) ?_
    refine rq_ic 40 (nI 0) rfl (by decide) rfl ?_
    exact rq_iret rfl rfl rfl ⟨hs3, ⟨_, _, _, _, hc3⟩, congrArg (fun x => some (Value.int x)) (bI_f (fun q => hkq (hcv.mp q).1)).symm⟩
  rw [if_pos hkq, hlt (by omega)]
  obtain ⟨a, ha, hF, el⟩ := jd_pos hj (by omega)
  have hda := fit_day hwd a ha hF
  refine rq_st 22 rfl rfl ?_
  refine rq_st 24 rfl rfl ?_
  refine rq_ic 25 (-1) rfl (by decide) rfl ?_
  refine rq_cmpI 28 rfl rfl (fun h25 => ?_) (fun h25 => ?_)
  · dsimp only [cI] at h25
    exact absurd (h25.symm.trans el) (nI_m1 (by omega))
  · dsimp only [cI] at h25
    refine rq_st 30 rfl rfl ?_
    refine rq_st 32 rfl rfl ?_
    refine rq_cmpI 35 rfl rfl (fun h32 => ?_) (fun h32 => ?_)
    · dsimp only [cI] at h32
      have hz : ¬ cvP A kn c v (dz v) day m := fun q => absurd h32 (Int32.not_lt.mpr (hcv.mp q).2)
      refine rq_ic 40 (nI 0) rfl (by decide) rfl ?_
      exact rq_iret rfl rfl (by first | rfl) ⟨hs3, ⟨_, _, _, _, hc3⟩, congrArg (fun x => some (Value.int x)) (by first | exact (bI_t hz).symm | exact (bI_f hz).symm)⟩
    · dsimp only [cI] at h32
      have hz : cvP A kn c v (dz v) day m := hcv.mpr ⟨hkq, Int32.not_lt.mp h32⟩
      refine rq_ic 36 (nI 1) rfl (by decide) rfl ?_
      refine rq_st 40 rfl rfl ?_
      exact rq_iret rfl rfl (by first | rfl) ⟨hs3, ⟨_, _, _, _, hc3⟩, congrArg (fun x => some (Value.int x)) (by first | exact (bI_t hz).symm | exact (bI_f hz).symm)⟩
def co6 (A : Nat → Nat → Int32) (kn : Nat → Nat → Nat) (c v z : Nat) (day : Int32) (G : ma_G) (r : Option Value) (G' : ma_G) : Prop := sm nIn G G' ∧ (∃ g, nmp G' 45 g) ∧ (∃ D sz k ld, co G' 47 D sz k ld) ∧ r = some (.int (nI (cntP (cvP A kn c v z day) 12)))
theorem p_X6_coverage (d : Nat) {G : ma_G} {A : Nat → Nat → Int32} {n : Nat → Nat} {kn : Nat → Nat → Nat} {hr : Nat → Nat → Nat → Nat} (hR : cRd A n kn hr G) (hk : mKn A n kn) {dz : Nat → Nat} (hSc : cSc A dz G) (hdz : mDz A dz) {g0 : Nat → Int32} (hm0 : nmp G 45 g0) {D0 : Nat → Int32} {sz0 k0 : Nat} {ld0 : Int32} (hc0 : co G 47 D0 sz0 k0 ld0) (c : Nat) (hc : c < 4) (hwd : wfD A kn c) (hws : wfS A kn c) (v : Nat) (hv : v < 3) (day : Int32) : Cq (d + 7) 95 [.ref 1, .int (nI c), .int (nI v), .int day] G (co6 A kn c v (dz v) day G) := by
  refine cq_of rfl ?_
  refine rq_st 1 rfl rfl ?_
  refine rq_call [_] _ 4 rfl rfl rfl rfl rfl (Nat.le_of_ble_eq_true rfl) (cats rfl) (rcv_n rfl) (p_reqClinic_y (d + 4) ⟨c, hc, rfl⟩ _) rfl ?_
  refine rq_st 5 rfl rfl ?_
  refine rq_call [_] _ 8 rfl rfl rfl rfl rfl (Nat.le_of_ble_eq_true rfl) (cats rfl) (rcv_n rfl) (p_reqVaccine_y (d + 4) ⟨v, hv, rfl⟩ _) rfl ?_
  refine rq_st 9 rfl rfl ?_
  refine rq_st 10 rfl rfl ?_
  refine rq_callq [_, _] _ 13 rfl rfl rfl rfl rfl (Nat.le_of_ble_eq_true rfl) (cats rfl) (rcv_s rfl hR.1.1) (p_X6_readNames (d + 2) hR hk hm0 c hc hws) rfl (fun v9 G3 hv9 => ?_)
  obtain ⟨rfl, hs3, f, g3, hm3, hg3, hf⟩ := hv9
  have hR3 := hR.sm hs3 (fun a h1 h2 q => by omega)
  have hSc3 := hSc.sm hs3 (fun a h1 h2 q => by omega)
  have hc3 := hc0.sm hs3 (fun q => by omega) (fun q => by omega)
  refine rq_ic 14 (nI 0) rfl (by decide) rfl ?_
  refine rq_st 16 rfl rfl ?_
  refine rq_ic 17 (nI 0) rfl (by decide) rfl ?_
  refine rq_st 19 rfl rfl ?_
  have loop : ∀ (m p n1 : Nat) (G4 : ma_G) (D4 : Nat → Int32) (sz4 k4 : Nat) (ld4 : Int32), p + m = 12 → n1 = cntP (cvP A kn c v (dz v) day) p → co G4 47 D4 sz4 k4 ld4 → sm (cIn2 47) G3 G4 → Rq (d + 6) M_X6_coverage 19 [some (.ref 1), some (.int (nI c)), some (.int (nI v)), some (.int day), some (.int (nI n1)), some (.int (nI p))] [] G4 (Qr (co6 A kn c v (dz v) day G)) := by
    intro m
    induction m with
    | zero =>
      intro p n1 G4 D4 sz4 k4 ld4 hp hn1 hc4 hs4
      have hle := cntP_le (P := (cvP A kn c v (dz v) day)) p
      have hx4 := (hR3.sm hs4 (fun a h1 h2 q => absurd q.1 (by omega))).1.1
      have hm4 := hm3.sm hs4 (fun q => absurd q.1 (by omega)) (fun q => absurd q.1 (by omega))
      refine rq_st 21 rfl rfl ?_
      refine rq_bp 23 (nI 12) rfl (by decide) rfl ?_
      refine rq_cmpt rfl ((ma_cmpN (by omega) (by omega)).mpr (by show 12 ≤ p; omega)) ?_
      refine rq_st 63 rfl rfl ?_
      exact rq_iret rfl rfl rfl ⟨(sm46 hs3).tr (sm47 hs4), ⟨g3, hm4⟩, ⟨_, _, _, _, hc4⟩, by rw [hn1, show p = 12 by omega]⟩
    | succ m ih =>
      intro p n1 G4 D4 sz4 k4 ld4 hp hn1 hc4 hs4
      have hle := cntP_le (P := (cvP A kn c v (dz v) day)) p
      have hR4 := hR3.sm hs4 (fun a h1 h2 q => absurd q.1 (by omega))
      have hx4 := hR4.1.1
      have hm4 := hm3.sm hs4 (fun q => absurd q.1 (by omega)) (fun q => absurd q.1 (by omega))
      have hSc4 := hSc3.sm hs4 (fun a h1 h2 q => absurd q.1 (by omega))
      refine rq_st 21 rfl rfl ?_
      refine rq_bp 23 (nI 12) rfl (by decide) rfl ?_
      refine rq_cmpf 26 rfl rfl (by rw [← Bool.not_eq_true, ma_cmpN (by omega) (by omega)]; show ¬ 12 ≤ p; omega) ?_
      refine rq_st 27 rfl rfl ?_
      refine rq_getf 30 rfl hx4 rfl rfl ?_
      refine rq_st 32 rfl rfl ?_
      refine rq_call [_, _] _ 35 rfl rfl rfl rfl rfl (Nat.le_of_ble_eq_true rfl) (cats rfl) (rcv_s rfl hm4.1) (p_X3_of (d + 4) hm4 hg3 p (by omega)) rfl ?_
      refine rq_st 37 rfl rfl ?_
      have hfp := (hg3 p (by omega)).2
      refine rq_cmpN 40 rfl rfl (by omega) (by omega) (fun h37 => ?_) (fun h37 => ?_)
      · dsimp only [cN] at h37
        have hnp : ¬ (cvP A kn c v (dz v) day) p := fun ⟨f9, k9, l9, hj9, e9, _⟩ => h37 ((isNm_one hf hj9.1 p (by omega)).trans e9)
        refine rq_incN 58 _ rfl rfl (nI_1 _) rfl rfl ?_
        refine rq_st 19 rfl rfl ?_
        first
          | exact ih (p + 1) (n1 + 1) _ _ _ _ _ (by omega) (by rw [cntP_y h49, hn1]) hc5 (hs4.tr hs5)
          | exact ih (p + 1) n1 _ _ _ _ _ (by omega) (by rw [cntP_n h49, hn1]) hc5 (hs4.tr hs5)
          | exact ih (p + 1) n1 _ _ _ _ _ (by omega) (by rw [cntP_n (fun q => hnp q), hn1]) hc4 hs4
      · dsimp only [cN] at h37
        refine rq_st 41 rfl rfl ?_
        refine rq_st 42 rfl rfl ?_
        refine rq_st 44 rfl rfl ?_
        refine rq_st 45 rfl rfl ?_
        refine rq_st 46 rfl rfl ?_
        refine rq_callq [_, _, _, _, _] _ 49 rfl rfl rfl rfl rfl (Nat.le_of_ble_eq_true rfl) (cats rfl) (rcv_s rfl hx4) (p_X6_isProtectedBy d hR4 hk hSc4 hdz hc4 c hc hwd hm4 hg3 hf p (by omega) (by omega) v hv day) rfl (fun v5 G5 hv5 => ?_)
        obtain ⟨hs5, ⟨D5, sz5, k5, ld5, hc5⟩, rfl⟩ := hv5
        refine rq_ifB 52 rfl rfl (fun h49 => ?_) (fun h49 => ?_)
        · skip
          refine rq_incN 58 _ rfl rfl (nI_1 _) rfl rfl ?_
          refine rq_st 19 rfl rfl ?_
          first
            | exact ih (p + 1) (n1 + 1) _ _ _ _ _ (by omega) (by rw [cntP_y h49, hn1]) hc5 (hs4.tr hs5)
            | exact ih (p + 1) n1 _ _ _ _ _ (by omega) (by rw [cntP_n h49, hn1]) hc5 (hs4.tr hs5)
            | exact ih (p + 1) n1 _ _ _ _ _ (by omega) (by rw [cntP_n (fun q => hnp q), hn1]) hc4 hs4
        · skip
          refine rq_incN 55 _ rfl rfl (nI_1 _) rfl rfl ?_
          refine rq_incN 58 _ rfl rfl (nI_1 _) rfl rfl ?_
          refine rq_st 19 rfl rfl ?_
          first
            | exact ih (p + 1) (n1 + 1) _ _ _ _ _ (by omega) (by rw [cntP_y h49, hn1]) hc5 (hs4.tr hs5)
            | exact ih (p + 1) n1 _ _ _ _ _ (by omega) (by rw [cntP_n h49, hn1]) hc5 (hs4.tr hs5)
            | exact ih (p + 1) n1 _ _ _ _ _ (by omega) (by rw [cntP_n (fun q => hnp q), hn1]) hc4 hs4
  exact loop 12 0 0 G3 _ _ _ _ (by omega) rfl hc3 sm.rf
theorem p_X6_coverage_bad (d : Nat) {G : ma_G} {c v day : Int32} (h : ¬ (inN c 4 ∧ inN v 3)) : Ca (d + 5) 95 [.ref 1, .int c, .int v, .int day] G (.inr 8001, G, 1, 6) := by
  refine ca_of rfl ?_
  refine ru_st 1 rfl rfl ?_
  by_cases hq1 : inN c 4
  rotate_left
  · exact ru_callt [_] _ rfl rfl rfl rfl rfl (Nat.le_of_ble_eq_true rfl) (cats rfl) (rcv_n rfl) (p_reqClinic_n d hq1 _) rfl rfl
  refine ru_call [_] _ 4 rfl rfl rfl rfl rfl (Nat.le_of_ble_eq_true rfl) (cats rfl) (rcv_n rfl) (p_reqClinic_y (d + 2) hq1 _) rfl ?_
  refine ru_st 5 rfl rfl ?_
  by_cases hq5 : inN v 3
  rotate_left
  · exact ru_callt [_] _ rfl rfl rfl rfl rfl (Nat.le_of_ble_eq_true rfl) (cats rfl) (rcv_n rfl) (p_reqVaccine_n d hq5 _) rfl rfl
  refine ru_call [_] _ 8 rfl rfl rfl rfl rfl (Nat.le_of_ble_eq_true rfl) (cats rfl) (rcv_n rfl) (p_reqVaccine_y (d + 2) hq5 _) rfl ?_
  exact absurd ⟨hq1, hq5⟩ h
