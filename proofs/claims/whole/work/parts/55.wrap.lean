/-! the law's wrappers -/
theorem longs_eq {G : ma_G} {a n : Nat} {g : Nat → Int64} (h : a < G.length) : ma_longs (G.set a (.inl (1, n, .inr (.inl g)))) a = some (n, g) := by unfold ma_longs; rw [List.getElem?_set_self h]; simp
theorem longs_lt {G : ma_G} {a : Nat} {q : Nat × (Nat → Int64)} (h : ma_longs G a = some q) : a < G.length := by
  unfold ma_longs at h
  by_cases e : a < G.length
  · exact e
  · rw [List.getElem?_eq_none (by omega)] at h
    cases h
theorem ru_lasN {d : Nat} {M : ma_M} {pc aux : Nat} {L : ma_L} {S : List Value} {G : ma_G} {r : ma_R} {a j n : Nat} {v : Int64} {f : Nat → Int64} (pc' : Nat) (hf : ma_find M.cd pc = some (.lastore, aux)) (ho : ma_longs G a = some (n, f)) (hj : j < n) (hn : n < 2 ^ 31) (hp : pc + 1 = pc') (k : Ru d M pc' L S (G.set a (.inl (1, n, .inr (.inl (vp_updL f j v))))) r) : Ru d M pc L (.long v :: .int (nI j) :: .ref a :: S) G r := by
  subst hp
  refine ru_st _ hf ?_ k
  simp only [ma_step, ho, ix_N hj hn, Option.map_some]
theorem rq_lalN {d : Nat} {M : ma_M} {pc aux : Nat} {L : ma_L} {S : List Value} {G : ma_G} {Q : ma_R → Prop} {a j n : Nat} {f : Nat → Int64} (pc' : Nat) (hf : ma_find M.cd pc = some (.laload, aux)) (ho : ma_longs G a = some (n, f)) (hj : j < n) (hn : n < 2 ^ 31) (hp : pc + 1 = pc') (k : Rq d M pc' L (.long (f j) :: S) G Q) : Rq d M pc L (.int (nI j) :: .ref a :: S) G Q := by
  subst hp
  refine rq_st _ hf ?_ k
  simp only [ma_step, ho, ix_N hj hn, Option.map_some]
theorem ru_callh0 {d : Nat} {M : ma_M} {pc aux : Nat} {L : ma_L} {S : List Value} {G : ma_G} {x : Instr} {k : Nat} {N : ma_M} (As rest : List Value) {z : Nat} {G1 : ma_G} {c1 s1 : Nat} {v : Option Value} {G2 : ma_G} {pc' i : Nat} (hf : ma_find M.cd pc = some (x, aux)) (hi : ma_inv x aux = some k) (hN : prog k = some N) (hS : S = As.reverse ++ rest) (hna : As.length = N.na) (hr : (rest.map fun v => v.category).sum ≤ 8) (hc : ∀ v ∈ As, v.category = 1) (hrc : ma_rcv N As G)
    (hcl : Ca d k As G (.inr z, G1, c1, s1)) (hx : ma_catch M.hx pc z = some (pc', i)) (hil : i < L.length) (hok : ma_ok1 L i = true) (kk : Ru d M pc' (L.set i none) [] G1 (.inl v, G2, 0, 0)) : Ru d M pc L S G (.inl v, G2, c1, s1) := by
  have h := ru_callh As rest hf hi hN hS hna hr hc hrc hcl hx hil hok kk
  unfold ma_add at h
  rw [Nat.zero_add, Nat.zero_add] at h
  exact h
def outS (G : ma_G) (o : Nat → Int64) (v : Int64) : ma_G := G.set 63 (.inl (1, 1, .inr (.inl (vp_updL o 0 v))))
theorem w_schedule_1 {d : Nat} {G G1 : ma_G} {p0 p1 p2 p3 p4 : Int32} {fs : List Value} (hx : ma_obj G 1 6 = some fs) (h : Ca d 32 [.ref 1, .int p0, .int p1, .int p2, .int p3, .int p4] G (.inr 8001, G1, 1, 6)) : Ca (d + 1) 31 [.ref 1, .int p0, .int p1, .int p2, .int p3, .int p4] G (.inl (some (.int (nI 1))), G1, 1, 6) := by
  refine ca_of rfl ?_
  refine ru_st 1 rfl rfl ?_
  refine ru_st 2 rfl rfl ?_
  refine ru_st 3 rfl rfl ?_
  refine ru_st 4 rfl rfl ?_
  refine ru_st 6 rfl rfl ?_
  refine ru_st 8 rfl rfl ?_
  refine ru_callh0 [_, _, _, _, _, _] _ rfl rfl rfl rfl rfl (Nat.le_of_ble_eq_true rfl) (cats rfl) (rcv_s rfl hx) h rfl (Nat.le_of_ble_eq_true rfl) rfl ?_
  refine ru_ic 17 (nI 1) rfl (by decide) rfl ?_
  exact ru_ire rfl rfl rfl rfl
theorem w_schedule_2 {d : Nat} {G G1 : ma_G} {p0 p1 p2 p3 p4 : Int32} {fs : List Value} (hx : ma_obj G 1 6 = some fs) (h : Ca d 32 [.ref 1, .int p0, .int p1, .int p2, .int p3, .int p4] G (.inr 8002, G1, 1, 6)) : Ca (d + 1) 31 [.ref 1, .int p0, .int p1, .int p2, .int p3, .int p4] G (.inl (some (.int (nI 2))), G1, 1, 6) := by
  refine ca_of rfl ?_
  refine ru_st 1 rfl rfl ?_
  refine ru_st 2 rfl rfl ?_
  refine ru_st 3 rfl rfl ?_
  refine ru_st 4 rfl rfl ?_
  refine ru_st 6 rfl rfl ?_
  refine ru_st 8 rfl rfl ?_
  refine ru_callh0 [_, _, _, _, _, _] _ rfl rfl rfl rfl rfl (Nat.le_of_ble_eq_true rfl) (cats rfl) (rcv_s rfl hx) h rfl (Nat.le_of_ble_eq_true rfl) rfl ?_
  refine ru_ic 21 (nI 2) rfl (by decide) rfl ?_
  exact ru_ire rfl rfl rfl rfl
theorem w_schedule_0 {d : Nat} {G G1 : ma_G} {p0 p1 p2 p3 p4 : Int32} {fs : List Value} (hx : ma_obj G 1 6 = some fs) (h : Ca d 32 [.ref 1, .int p0, .int p1, .int p2, .int p3, .int p4] G (.inl none, G1, 0, 0)) : Ca (d + 1) 31 [.ref 1, .int p0, .int p1, .int p2, .int p3, .int p4] G (.inl (some (.int (nI 0))), G1, 0, 0) := by
  refine ca_of rfl ?_
  refine ru_st 1 rfl rfl ?_
  refine ru_st 2 rfl rfl ?_
  refine ru_st 3 rfl rfl ?_
  refine ru_st 4 rfl rfl ?_
  refine ru_st 6 rfl rfl ?_
  refine ru_st 8 rfl rfl ?_
  refine ru_call [_, _, _, _, _, _] _ 11 rfl rfl rfl rfl rfl (Nat.le_of_ble_eq_true rfl) (cats rfl) (rcv_s rfl hx) h rfl ?_
  refine ru_st 22 rfl rfl ?_
  refine ru_ic 23 (nI 0) rfl (by decide) rfl ?_
  exact ru_ire rfl rfl rfl rfl
theorem w_dose_1 {d : Nat} {G G1 : ma_G} {p0 p1 p2 p3 p4 : Int32} {fs : List Value} (hx : ma_obj G 1 6 = some fs) (h : Ca d 40 [.ref 1, .int p0, .int p1, .int p2, .int p3, .int p4] G (.inr 8001, G1, 1, 6)) : Ca (d + 1) 39 [.ref 1, .int p0, .int p1, .int p2, .int p3, .int p4, .ref 63] G (.inl (some (.int (nI 1))), G1, 1, 6) := by
  refine ca_of rfl ?_
  refine ru_st 2 rfl rfl ?_
  refine ru_ic 3 (nI 0) rfl (by decide) rfl ?_
  refine ru_st 4 rfl rfl ?_
  refine ru_st 5 rfl rfl ?_
  refine ru_st 6 rfl rfl ?_
  refine ru_st 7 rfl rfl ?_
  refine ru_st 9 rfl rfl ?_
  refine ru_st 11 rfl rfl ?_
  refine ru_callh0 [_, _, _, _, _, _] _ rfl rfl rfl rfl rfl (Nat.le_of_ble_eq_true rfl) (cats rfl) (rcv_s rfl hx) h rfl (Nat.le_of_ble_eq_true rfl) rfl ?_
  refine ru_ic 22 (nI 1) rfl (by decide) rfl ?_
  exact ru_ire rfl rfl rfl rfl
theorem w_dose_2 {d : Nat} {G G1 : ma_G} {p0 p1 p2 p3 p4 : Int32} {fs : List Value} (hx : ma_obj G 1 6 = some fs) (h : Ca d 40 [.ref 1, .int p0, .int p1, .int p2, .int p3, .int p4] G (.inr 8002, G1, 1, 6)) : Ca (d + 1) 39 [.ref 1, .int p0, .int p1, .int p2, .int p3, .int p4, .ref 63] G (.inl (some (.int (nI 2))), G1, 1, 6) := by
  refine ca_of rfl ?_
  refine ru_st 2 rfl rfl ?_
  refine ru_ic 3 (nI 0) rfl (by decide) rfl ?_
  refine ru_st 4 rfl rfl ?_
  refine ru_st 5 rfl rfl ?_
  refine ru_st 6 rfl rfl ?_
  refine ru_st 7 rfl rfl ?_
  refine ru_st 9 rfl rfl ?_
  refine ru_st 11 rfl rfl ?_
  refine ru_callh0 [_, _, _, _, _, _] _ rfl rfl rfl rfl rfl (Nat.le_of_ble_eq_true rfl) (cats rfl) (rcv_s rfl hx) h rfl (Nat.le_of_ble_eq_true rfl) rfl ?_
  refine ru_ic 26 (nI 2) rfl (by decide) rfl ?_
  exact ru_ire rfl rfl rfl rfl
theorem w_dose_0 {d : Nat} {G G1 : ma_G} {p0 p1 p2 p3 p4 : Int32} {v : Int32} {o : Nat → Int64} (ho : ma_longs G1 63 = some (1, o)) {fs : List Value} (hx : ma_obj G 1 6 = some fs) (h : Ca d 40 [.ref 1, .int p0, .int p1, .int p2, .int p3, .int p4] G (.inl (some (.int v)), G1, 0, 0)) : Ca (d + 1) 39 [.ref 1, .int p0, .int p1, .int p2, .int p3, .int p4, .ref 63] G (.inl (some (.int (nI 0))), (outS G1 o v.toInt64), 0, 0) := by
  refine ca_of rfl ?_
  refine ru_st 2 rfl rfl ?_
  refine ru_ic 3 (nI 0) rfl (by decide) rfl ?_
  refine ru_st 4 rfl rfl ?_
  refine ru_st 5 rfl rfl ?_
  refine ru_st 6 rfl rfl ?_
  refine ru_st 7 rfl rfl ?_
  refine ru_st 9 rfl rfl ?_
  refine ru_st 11 rfl rfl ?_
  refine ru_call [_, _, _, _, _, _] _ 14 rfl rfl rfl rfl rfl (Nat.le_of_ble_eq_true rfl) (cats rfl) (rcv_s rfl hx) h rfl ?_
  refine ru_st 15 rfl rfl ?_
  refine ru_lasN 16 rfl ho (by decide) (by decide) rfl ?_
  refine ru_st 27 rfl rfl ?_
  refine ru_ic 28 (nI 0) rfl (by decide) rfl ?_
  exact ru_ire rfl rfl rfl rfl
theorem w_strike_1 {d : Nat} {G G1 : ma_G} {p0 p1 : Int32} {fs : List Value} (hx : ma_obj G 1 6 = some fs) (h : Ca d 49 [.ref 1, .int p0, .int p1] G (.inr 8001, G1, 1, 6)) : Ca (d + 1) 48 [.ref 1, .int p0, .int p1, .ref 63] G (.inl (some (.int (nI 1))), G1, 1, 6) := by
  refine ca_of rfl ?_
  refine ru_st 1 rfl rfl ?_
  refine ru_ic 2 (nI 0) rfl (by decide) rfl ?_
  refine ru_st 3 rfl rfl ?_
  refine ru_st 4 rfl rfl ?_
  refine ru_st 5 rfl rfl ?_
  refine ru_callh0 [_, _, _] _ rfl rfl rfl rfl rfl (Nat.le_of_ble_eq_true rfl) (cats rfl) (rcv_s rfl hx) h rfl (Nat.le_of_ble_eq_true rfl) rfl ?_
  refine ru_ic 16 (nI 1) rfl (by decide) rfl ?_
  exact ru_ire rfl rfl rfl rfl
theorem w_strike_2 {d : Nat} {G G1 : ma_G} {p0 p1 : Int32} {fs : List Value} (hx : ma_obj G 1 6 = some fs) (h : Ca d 49 [.ref 1, .int p0, .int p1] G (.inr 8002, G1, 1, 6)) : Ca (d + 1) 48 [.ref 1, .int p0, .int p1, .ref 63] G (.inl (some (.int (nI 2))), G1, 1, 6) := by
  refine ca_of rfl ?_
  refine ru_st 1 rfl rfl ?_
  refine ru_ic 2 (nI 0) rfl (by decide) rfl ?_
  refine ru_st 3 rfl rfl ?_
  refine ru_st 4 rfl rfl ?_
  refine ru_st 5 rfl rfl ?_
  refine ru_callh0 [_, _, _] _ rfl rfl rfl rfl rfl (Nat.le_of_ble_eq_true rfl) (cats rfl) (rcv_s rfl hx) h rfl (Nat.le_of_ble_eq_true rfl) rfl ?_
  refine ru_ic 20 (nI 2) rfl (by decide) rfl ?_
  exact ru_ire rfl rfl rfl rfl
theorem w_strike_0 {d : Nat} {G G1 : ma_G} {p0 p1 : Int32} {v : Int32} {o : Nat → Int64} (ho : ma_longs G1 63 = some (1, o)) {fs : List Value} (hx : ma_obj G 1 6 = some fs) (h : Ca d 49 [.ref 1, .int p0, .int p1] G (.inl (some (.int v)), G1, 0, 0)) : Ca (d + 1) 48 [.ref 1, .int p0, .int p1, .ref 63] G (.inl (some (.int (nI 0))), (outS G1 o v.toInt64), 0, 0) := by
  refine ca_of rfl ?_
  refine ru_st 1 rfl rfl ?_
  refine ru_ic 2 (nI 0) rfl (by decide) rfl ?_
  refine ru_st 3 rfl rfl ?_
  refine ru_st 4 rfl rfl ?_
  refine ru_st 5 rfl rfl ?_
  refine ru_call [_, _, _] _ 8 rfl rfl rfl rfl rfl (Nat.le_of_ble_eq_true rfl) (cats rfl) (rcv_s rfl hx) h rfl ?_
  refine ru_st 9 rfl rfl ?_
  refine ru_lasN 10 rfl ho (by decide) (by decide) rfl ?_
  refine ru_st 21 rfl rfl ?_
  refine ru_ic 22 (nI 0) rfl (by decide) rfl ?_
  exact ru_ire rfl rfl rfl rfl
theorem w_recall_1 {d : Nat} {G G1 : ma_G} {p0 p1 p2 p3 : Int32} {fs : List Value} (hx : ma_obj G 1 6 = some fs) (h : Ca d 51 [.ref 1, .int p0, .int p1, .int p2, .int p3] G (.inr 8001, G1, 1, 6)) : Ca (d + 1) 50 [.ref 1, .int p0, .int p1, .int p2, .int p3, .ref 63] G (.inl (some (.int (nI 1))), G1, 1, 6) := by
  refine ca_of rfl ?_
  refine ru_st 2 rfl rfl ?_
  refine ru_ic 3 (nI 0) rfl (by decide) rfl ?_
  refine ru_st 4 rfl rfl ?_
  refine ru_st 5 rfl rfl ?_
  refine ru_st 6 rfl rfl ?_
  refine ru_st 7 rfl rfl ?_
  refine ru_st 9 rfl rfl ?_
  refine ru_callh0 [_, _, _, _, _] _ rfl rfl rfl rfl rfl (Nat.le_of_ble_eq_true rfl) (cats rfl) (rcv_s rfl hx) h rfl (Nat.le_of_ble_eq_true rfl) rfl ?_
  refine ru_ic 20 (nI 1) rfl (by decide) rfl ?_
  exact ru_ire rfl rfl rfl rfl
theorem w_recall_2 {d : Nat} {G G1 : ma_G} {p0 p1 p2 p3 : Int32} {fs : List Value} (hx : ma_obj G 1 6 = some fs) (h : Ca d 51 [.ref 1, .int p0, .int p1, .int p2, .int p3] G (.inr 8002, G1, 1, 6)) : Ca (d + 1) 50 [.ref 1, .int p0, .int p1, .int p2, .int p3, .ref 63] G (.inl (some (.int (nI 2))), G1, 1, 6) := by
  refine ca_of rfl ?_
  refine ru_st 2 rfl rfl ?_
  refine ru_ic 3 (nI 0) rfl (by decide) rfl ?_
  refine ru_st 4 rfl rfl ?_
  refine ru_st 5 rfl rfl ?_
  refine ru_st 6 rfl rfl ?_
  refine ru_st 7 rfl rfl ?_
  refine ru_st 9 rfl rfl ?_
  refine ru_callh0 [_, _, _, _, _] _ rfl rfl rfl rfl rfl (Nat.le_of_ble_eq_true rfl) (cats rfl) (rcv_s rfl hx) h rfl (Nat.le_of_ble_eq_true rfl) rfl ?_
  refine ru_ic 24 (nI 2) rfl (by decide) rfl ?_
  exact ru_ire rfl rfl rfl rfl
theorem w_recall_0 {d : Nat} {G G1 : ma_G} {p0 p1 p2 p3 : Int32} {v : Int32} {o : Nat → Int64} (ho : ma_longs G1 63 = some (1, o)) {fs : List Value} (hx : ma_obj G 1 6 = some fs) (h : Ca d 51 [.ref 1, .int p0, .int p1, .int p2, .int p3] G (.inl (some (.int v)), G1, 0, 0)) : Ca (d + 1) 50 [.ref 1, .int p0, .int p1, .int p2, .int p3, .ref 63] G (.inl (some (.int (nI 0))), (outS G1 o v.toInt64), 0, 0) := by
  refine ca_of rfl ?_
  refine ru_st 2 rfl rfl ?_
  refine ru_ic 3 (nI 0) rfl (by decide) rfl ?_
  refine ru_st 4 rfl rfl ?_
  refine ru_st 5 rfl rfl ?_
  refine ru_st 6 rfl rfl ?_
  refine ru_st 7 rfl rfl ?_
  refine ru_st 9 rfl rfl ?_
  refine ru_call [_, _, _, _, _] _ 12 rfl rfl rfl rfl rfl (Nat.le_of_ble_eq_true rfl) (cats rfl) (rcv_s rfl hx) h rfl ?_
  refine ru_st 13 rfl rfl ?_
  refine ru_lasN 14 rfl ho (by decide) (by decide) rfl ?_
  refine ru_st 25 rfl rfl ?_
  refine ru_ic 26 (nI 0) rfl (by decide) rfl ?_
  exact ru_ire rfl rfl rfl rfl
theorem w_same_1 {d : Nat} {G G1 : ma_G} {p0 p1 p2 : Int32} {fs : List Value} (hx : ma_obj G 1 6 = some fs) (h : Ca d 53 [.ref 1, .int p0, .int p1, .int p2] G (.inr 8001, G1, 1, 6)) : Ca (d + 1) 52 [.ref 1, .int p0, .int p1, .int p2, .ref 63] G (.inl (some (.int (nI 1))), G1, 1, 6) := by
  refine ca_of rfl ?_
  refine ru_st 2 rfl rfl ?_
  refine ru_ic 3 (nI 0) rfl (by decide) rfl ?_
  refine ru_st 4 rfl rfl ?_
  refine ru_st 5 rfl rfl ?_
  refine ru_st 6 rfl rfl ?_
  refine ru_st 7 rfl rfl ?_
  refine ru_callh0 [_, _, _, _] _ rfl rfl rfl rfl rfl (Nat.le_of_ble_eq_true rfl) (cats rfl) (rcv_s rfl hx) h rfl (Nat.le_of_ble_eq_true rfl) rfl ?_
  refine ru_ic 18 (nI 1) rfl (by decide) rfl ?_
  exact ru_ire rfl rfl rfl rfl
theorem w_same_2 {d : Nat} {G G1 : ma_G} {p0 p1 p2 : Int32} {fs : List Value} (hx : ma_obj G 1 6 = some fs) (h : Ca d 53 [.ref 1, .int p0, .int p1, .int p2] G (.inr 8002, G1, 1, 6)) : Ca (d + 1) 52 [.ref 1, .int p0, .int p1, .int p2, .ref 63] G (.inl (some (.int (nI 2))), G1, 1, 6) := by
  refine ca_of rfl ?_
  refine ru_st 2 rfl rfl ?_
  refine ru_ic 3 (nI 0) rfl (by decide) rfl ?_
  refine ru_st 4 rfl rfl ?_
  refine ru_st 5 rfl rfl ?_
  refine ru_st 6 rfl rfl ?_
  refine ru_st 7 rfl rfl ?_
  refine ru_callh0 [_, _, _, _] _ rfl rfl rfl rfl rfl (Nat.le_of_ble_eq_true rfl) (cats rfl) (rcv_s rfl hx) h rfl (Nat.le_of_ble_eq_true rfl) rfl ?_
  refine ru_ic 22 (nI 2) rfl (by decide) rfl ?_
  exact ru_ire rfl rfl rfl rfl
theorem w_same_0 {d : Nat} {G G1 : ma_G} {p0 p1 p2 : Int32} {v : Int32} {o : Nat → Int64} (ho : ma_longs G1 63 = some (1, o)) {fs : List Value} (hx : ma_obj G 1 6 = some fs) (h : Ca d 53 [.ref 1, .int p0, .int p1, .int p2] G (.inl (some (.int v)), G1, 0, 0)) : Ca (d + 1) 52 [.ref 1, .int p0, .int p1, .int p2, .ref 63] G (.inl (some (.int (nI 0))), (outS G1 o v.toInt64), 0, 0) := by
  refine ca_of rfl ?_
  refine ru_st 2 rfl rfl ?_
  refine ru_ic 3 (nI 0) rfl (by decide) rfl ?_
  refine ru_st 4 rfl rfl ?_
  refine ru_st 5 rfl rfl ?_
  refine ru_st 6 rfl rfl ?_
  refine ru_st 7 rfl rfl ?_
  refine ru_call [_, _, _, _] _ 10 rfl rfl rfl rfl rfl (Nat.le_of_ble_eq_true rfl) (cats rfl) (rcv_s rfl hx) h rfl ?_
  refine ru_st 11 rfl rfl ?_
  refine ru_lasN 12 rfl ho (by decide) (by decide) rfl ?_
  refine ru_st 23 rfl rfl ?_
  refine ru_ic 24 (nI 0) rfl (by decide) rfl ?_
  exact ru_ire rfl rfl rfl rfl
theorem w_write_1 {d : Nat} {G G1 : ma_G} {p0 p1 : Int32} {fs : List Value} (hx : ma_obj G 1 6 = some fs) (h : Ca d 55 [.ref 1, .int p0, .int p1] G (.inr 8001, G1, 1, 6)) : Ca (d + 1) 54 [.ref 1, .int p0, .int p1, .ref 63] G (.inl (some (.int (nI 1))), G1, 1, 6) := by
  refine ca_of rfl ?_
  refine ru_st 1 rfl rfl ?_
  refine ru_ic 2 (nI 0) rfl (by decide) rfl ?_
  refine ru_st 3 rfl rfl ?_
  refine ru_st 4 rfl rfl ?_
  refine ru_st 5 rfl rfl ?_
  refine ru_callh0 [_, _, _] _ rfl rfl rfl rfl rfl (Nat.le_of_ble_eq_true rfl) (cats rfl) (rcv_s rfl hx) h rfl (Nat.le_of_ble_eq_true rfl) rfl ?_
  refine ru_ic 16 (nI 1) rfl (by decide) rfl ?_
  exact ru_ire rfl rfl rfl rfl
theorem w_write_0 {d : Nat} {G G1 : ma_G} {p0 p1 : Int32} {v : Int32} {o : Nat → Int64} (ho : ma_longs G1 63 = some (1, o)) {fs : List Value} (hx : ma_obj G 1 6 = some fs) (h : Ca d 55 [.ref 1, .int p0, .int p1] G (.inl (some (.int v)), G1, 0, 0)) : Ca (d + 1) 54 [.ref 1, .int p0, .int p1, .ref 63] G (.inl (some (.int (nI 0))), (outS G1 o v.toInt64), 0, 0) := by
  refine ca_of rfl ?_
  refine ru_st 1 rfl rfl ?_
  refine ru_ic 2 (nI 0) rfl (by decide) rfl ?_
  refine ru_st 3 rfl rfl ?_
  refine ru_st 4 rfl rfl ?_
  refine ru_st 5 rfl rfl ?_
  refine ru_call [_, _, _] _ 8 rfl rfl rfl rfl rfl (Nat.le_of_ble_eq_true rfl) (cats rfl) (rcv_s rfl hx) h rfl ?_
  refine ru_st 9 rfl rfl ?_
  refine ru_lasN 10 rfl ho (by decide) (by decide) rfl ?_
  refine ru_st 17 rfl rfl ?_
  refine ru_ic 18 (nI 0) rfl (by decide) rfl ?_
  exact ru_ire rfl rfl rfl rfl
theorem w_tear_1 {d : Nat} {G G1 : ma_G} {p0 p1 : Int32} {fs : List Value} (hx : ma_obj G 1 6 = some fs) (h : Ca d 63 [.ref 1, .int p0, .int p1] G (.inr 8001, G1, 1, 6)) : Ca (d + 1) 62 [.ref 1, .int p0, .int p1, .ref 63] G (.inl (some (.int (nI 1))), G1, 1, 6) := by
  refine ca_of rfl ?_
  refine ru_st 1 rfl rfl ?_
  refine ru_ic 2 (nI 0) rfl (by decide) rfl ?_
  refine ru_st 3 rfl rfl ?_
  refine ru_st 4 rfl rfl ?_
  refine ru_st 5 rfl rfl ?_
  refine ru_callh0 [_, _, _] _ rfl rfl rfl rfl rfl (Nat.le_of_ble_eq_true rfl) (cats rfl) (rcv_s rfl hx) h rfl (Nat.le_of_ble_eq_true rfl) rfl ?_
  refine ru_ic 16 (nI 1) rfl (by decide) rfl ?_
  exact ru_ire rfl rfl rfl rfl
theorem w_tear_0 {d : Nat} {G G1 : ma_G} {p0 p1 : Int32} {v : Int32} {o : Nat → Int64} (ho : ma_longs G1 63 = some (1, o)) {fs : List Value} (hx : ma_obj G 1 6 = some fs) (h : Ca d 63 [.ref 1, .int p0, .int p1] G (.inl (some (.int v)), G1, 0, 0)) : Ca (d + 1) 62 [.ref 1, .int p0, .int p1, .ref 63] G (.inl (some (.int (nI 0))), (outS G1 o v.toInt64), 0, 0) := by
  refine ca_of rfl ?_
  refine ru_st 1 rfl rfl ?_
  refine ru_ic 2 (nI 0) rfl (by decide) rfl ?_
  refine ru_st 3 rfl rfl ?_
  refine ru_st 4 rfl rfl ?_
  refine ru_st 5 rfl rfl ?_
  refine ru_call [_, _, _] _ 8 rfl rfl rfl rfl rfl (Nat.le_of_ble_eq_true rfl) (cats rfl) (rcv_s rfl hx) h rfl ?_
  refine ru_st 9 rfl rfl ?_
  refine ru_lasN 10 rfl ho (by decide) (by decide) rfl ?_
  refine ru_st 17 rfl rfl ?_
  refine ru_ic 18 (nI 0) rfl (by decide) rfl ?_
  exact ru_ire rfl rfl rfl rfl
theorem w_load_1 {d : Nat} {G G1 : ma_G} {p0 p1 : Int32} {fs : List Value} (hx : ma_obj G 1 6 = some fs) (h : Ca d 66 [.ref 1, .int p0, .int p1] G (.inr 8001, G1, 1, 6)) : Ca (d + 1) 65 [.ref 1, .int p0, .int p1, .ref 63] G (.inl (some (.int (nI 1))), G1, 1, 6) := by
  refine ca_of rfl ?_
  refine ru_st 1 rfl rfl ?_
  refine ru_ic 2 (nI 0) rfl (by decide) rfl ?_
  refine ru_st 3 rfl rfl ?_
  refine ru_st 4 rfl rfl ?_
  refine ru_st 5 rfl rfl ?_
  refine ru_callh0 [_, _, _] _ rfl rfl rfl rfl rfl (Nat.le_of_ble_eq_true rfl) (cats rfl) (rcv_s rfl hx) h rfl (Nat.le_of_ble_eq_true rfl) rfl ?_
  refine ru_ic 16 (nI 1) rfl (by decide) rfl ?_
  exact ru_ire rfl rfl rfl rfl
theorem w_load_0 {d : Nat} {G G1 : ma_G} {p0 p1 : Int32} {v : Int32} {o : Nat → Int64} (ho : ma_longs G1 63 = some (1, o)) {fs : List Value} (hx : ma_obj G 1 6 = some fs) (h : Ca d 66 [.ref 1, .int p0, .int p1] G (.inl (some (.int v)), G1, 0, 0)) : Ca (d + 1) 65 [.ref 1, .int p0, .int p1, .ref 63] G (.inl (some (.int (nI 0))), (outS G1 o v.toInt64), 0, 0) := by
  refine ca_of rfl ?_
  refine ru_st 1 rfl rfl ?_
  refine ru_ic 2 (nI 0) rfl (by decide) rfl ?_
  refine ru_st 3 rfl rfl ?_
  refine ru_st 4 rfl rfl ?_
  refine ru_st 5 rfl rfl ?_
  refine ru_call [_, _, _] _ 8 rfl rfl rfl rfl rfl (Nat.le_of_ble_eq_true rfl) (cats rfl) (rcv_s rfl hx) h rfl ?_
  refine ru_st 9 rfl rfl ?_
  refine ru_lasN 10 rfl ho (by decide) (by decide) rfl ?_
  refine ru_st 17 rfl rfl ?_
  refine ru_ic 18 (nI 0) rfl (by decide) rfl ?_
  exact ru_ire rfl rfl rfl rfl
theorem w_counting_1 {d : Nat} {G G1 : ma_G} {p0 p1 p2 : Int32} {fs : List Value} (hx : ma_obj G 1 6 = some fs) (h : Ca d 74 [.ref 1, .int p0, .int p1, .int p2] G (.inr 8001, G1, 1, 6)) : Ca (d + 1) 73 [.ref 1, .int p0, .int p1, .int p2, .ref 63] G (.inl (some (.int (nI 1))), G1, 1, 6) := by
  refine ca_of rfl ?_
  refine ru_st 2 rfl rfl ?_
  refine ru_ic 3 (nI 0) rfl (by decide) rfl ?_
  refine ru_st 4 rfl rfl ?_
  refine ru_st 5 rfl rfl ?_
  refine ru_st 6 rfl rfl ?_
  refine ru_st 7 rfl rfl ?_
  refine ru_callh0 [_, _, _, _] _ rfl rfl rfl rfl rfl (Nat.le_of_ble_eq_true rfl) (cats rfl) (rcv_s rfl hx) h rfl (Nat.le_of_ble_eq_true rfl) rfl ?_
  refine ru_ic 18 (nI 1) rfl (by decide) rfl ?_
  exact ru_ire rfl rfl rfl rfl
theorem w_counting_0 {d : Nat} {G G1 : ma_G} {p0 p1 p2 : Int32} {v : Int32} {o : Nat → Int64} (ho : ma_longs G1 63 = some (1, o)) {fs : List Value} (hx : ma_obj G 1 6 = some fs) (h : Ca d 74 [.ref 1, .int p0, .int p1, .int p2] G (.inl (some (.int v)), G1, 0, 0)) : Ca (d + 1) 73 [.ref 1, .int p0, .int p1, .int p2, .ref 63] G (.inl (some (.int (nI 0))), (outS G1 o v.toInt64), 0, 0) := by
  refine ca_of rfl ?_
  refine ru_st 2 rfl rfl ?_
  refine ru_ic 3 (nI 0) rfl (by decide) rfl ?_
  refine ru_st 4 rfl rfl ?_
  refine ru_st 5 rfl rfl ?_
  refine ru_st 6 rfl rfl ?_
  refine ru_st 7 rfl rfl ?_
  refine ru_call [_, _, _, _] _ 10 rfl rfl rfl rfl rfl (Nat.le_of_ble_eq_true rfl) (cats rfl) (rcv_s rfl hx) h rfl ?_
  refine ru_st 11 rfl rfl ?_
  refine ru_lasN 12 rfl ho (by decide) (by decide) rfl ?_
  refine ru_st 19 rfl rfl ?_
  refine ru_ic 20 (nI 0) rfl (by decide) rfl ?_
  exact ru_ire rfl rfl rfl rfl
theorem w_protectedDay_1 {d : Nat} {G G1 : ma_G} {p0 p1 p2 : Int32} {fs : List Value} (hx : ma_obj G 1 6 = some fs) (h : Ca d 89 [.ref 1, .int p0, .int p1, .int p2] G (.inr 8001, G1, 1, 6)) : Ca (d + 1) 88 [.ref 1, .int p0, .int p1, .int p2, .ref 63] G (.inl (some (.int (nI 1))), G1, 1, 6) := by
  refine ca_of rfl ?_
  refine ru_st 2 rfl rfl ?_
  refine ru_ic 3 (nI 0) rfl (by decide) rfl ?_
  refine ru_st 4 rfl rfl ?_
  refine ru_st 5 rfl rfl ?_
  refine ru_st 6 rfl rfl ?_
  refine ru_st 7 rfl rfl ?_
  refine ru_callh0 [_, _, _, _] _ rfl rfl rfl rfl rfl (Nat.le_of_ble_eq_true rfl) (cats rfl) (rcv_s rfl hx) h rfl (Nat.le_of_ble_eq_true rfl) rfl ?_
  refine ru_ic 18 (nI 1) rfl (by decide) rfl ?_
  exact ru_ire rfl rfl rfl rfl
theorem w_protectedDay_0 {d : Nat} {G G1 : ma_G} {p0 p1 p2 : Int32} {v : Int32} {o : Nat → Int64} (ho : ma_longs G1 63 = some (1, o)) {fs : List Value} (hx : ma_obj G 1 6 = some fs) (h : Ca d 89 [.ref 1, .int p0, .int p1, .int p2] G (.inl (some (.int v)), G1, 0, 0)) : Ca (d + 1) 88 [.ref 1, .int p0, .int p1, .int p2, .ref 63] G (.inl (some (.int (nI 0))), (outS G1 o v.toInt64), 0, 0) := by
  refine ca_of rfl ?_
  refine ru_st 2 rfl rfl ?_
  refine ru_ic 3 (nI 0) rfl (by decide) rfl ?_
  refine ru_st 4 rfl rfl ?_
  refine ru_st 5 rfl rfl ?_
  refine ru_st 6 rfl rfl ?_
  refine ru_st 7 rfl rfl ?_
  refine ru_call [_, _, _, _] _ 10 rfl rfl rfl rfl rfl (Nat.le_of_ble_eq_true rfl) (cats rfl) (rcv_s rfl hx) h rfl ?_
  refine ru_st 11 rfl rfl ?_
  refine ru_lasN 12 rfl ho (by decide) (by decide) rfl ?_
  refine ru_st 19 rfl rfl ?_
  refine ru_ic 20 (nI 0) rfl (by decide) rfl ?_
  exact ru_ire rfl rfl rfl rfl
theorem w_due_1 {d : Nat} {G G1 : ma_G} {p0 p1 p2 : Int32} {fs : List Value} (hx : ma_obj G 1 6 = some fs) (h : Ca d 92 [.ref 1, .int p0, .int p1, .int p2] G (.inr 8001, G1, 1, 6)) : Ca (d + 1) 91 [.ref 1, .int p0, .int p1, .int p2, .ref 63] G (.inl (some (.int (nI 1))), G1, 1, 6) := by
  refine ca_of rfl ?_
  refine ru_st 2 rfl rfl ?_
  refine ru_ic 3 (nI 0) rfl (by decide) rfl ?_
  refine ru_st 4 rfl rfl ?_
  refine ru_st 5 rfl rfl ?_
  refine ru_st 6 rfl rfl ?_
  refine ru_st 7 rfl rfl ?_
  refine ru_callh0 [_, _, _, _] _ rfl rfl rfl rfl rfl (Nat.le_of_ble_eq_true rfl) (cats rfl) (rcv_s rfl hx) h rfl (Nat.le_of_ble_eq_true rfl) rfl ?_
  refine ru_ic 18 (nI 1) rfl (by decide) rfl ?_
  exact ru_ire rfl rfl rfl rfl
theorem w_due_0 {d : Nat} {G G1 : ma_G} {p0 p1 p2 : Int32} {v : Int32} {o : Nat → Int64} (ho : ma_longs G1 63 = some (1, o)) {fs : List Value} (hx : ma_obj G 1 6 = some fs) (h : Ca d 92 [.ref 1, .int p0, .int p1, .int p2] G (.inl (some (.int v)), G1, 0, 0)) : Ca (d + 1) 91 [.ref 1, .int p0, .int p1, .int p2, .ref 63] G (.inl (some (.int (nI 0))), (outS G1 o v.toInt64), 0, 0) := by
  refine ca_of rfl ?_
  refine ru_st 2 rfl rfl ?_
  refine ru_ic 3 (nI 0) rfl (by decide) rfl ?_
  refine ru_st 4 rfl rfl ?_
  refine ru_st 5 rfl rfl ?_
  refine ru_st 6 rfl rfl ?_
  refine ru_st 7 rfl rfl ?_
  refine ru_call [_, _, _, _] _ 10 rfl rfl rfl rfl rfl (Nat.le_of_ble_eq_true rfl) (cats rfl) (rcv_s rfl hx) h rfl ?_
  refine ru_st 11 rfl rfl ?_
  refine ru_lasN 12 rfl ho (by decide) (by decide) rfl ?_
  refine ru_st 19 rfl rfl ?_
  refine ru_ic 20 (nI 0) rfl (by decide) rfl ?_
  exact ru_ire rfl rfl rfl rfl
theorem w_coverage_1 {d : Nat} {G G1 : ma_G} {p0 p1 p2 : Int32} {fs : List Value} (hx : ma_obj G 1 6 = some fs) (h : Ca d 95 [.ref 1, .int p0, .int p1, .int p2] G (.inr 8001, G1, 1, 6)) : Ca (d + 1) 94 [.ref 1, .int p0, .int p1, .int p2, .ref 63] G (.inl (some (.int (nI 1))), G1, 1, 6) := by
  refine ca_of rfl ?_
  refine ru_st 2 rfl rfl ?_
  refine ru_ic 3 (nI 0) rfl (by decide) rfl ?_
  refine ru_st 4 rfl rfl ?_
  refine ru_st 5 rfl rfl ?_
  refine ru_st 6 rfl rfl ?_
  refine ru_st 7 rfl rfl ?_
  refine ru_callh0 [_, _, _, _] _ rfl rfl rfl rfl rfl (Nat.le_of_ble_eq_true rfl) (cats rfl) (rcv_s rfl hx) h rfl (Nat.le_of_ble_eq_true rfl) rfl ?_
  refine ru_ic 18 (nI 1) rfl (by decide) rfl ?_
  exact ru_ire rfl rfl rfl rfl
theorem w_coverage_0 {d : Nat} {G G1 : ma_G} {p0 p1 p2 : Int32} {v : Int32} {o : Nat → Int64} (ho : ma_longs G1 63 = some (1, o)) {fs : List Value} (hx : ma_obj G 1 6 = some fs) (h : Ca d 95 [.ref 1, .int p0, .int p1, .int p2] G (.inl (some (.int v)), G1, 0, 0)) : Ca (d + 1) 94 [.ref 1, .int p0, .int p1, .int p2, .ref 63] G (.inl (some (.int (nI 0))), (outS G1 o v.toInt64), 0, 0) := by
  refine ca_of rfl ?_
  refine ru_st 2 rfl rfl ?_
  refine ru_ic 3 (nI 0) rfl (by decide) rfl ?_
  refine ru_st 4 rfl rfl ?_
  refine ru_st 5 rfl rfl ?_
  refine ru_st 6 rfl rfl ?_
  refine ru_st 7 rfl rfl ?_
  refine ru_call [_, _, _, _] _ 10 rfl rfl rfl rfl rfl (Nat.le_of_ble_eq_true rfl) (cats rfl) (rcv_s rfl hx) h rfl ?_
  refine ru_st 11 rfl rfl ?_
  refine ru_lasN 12 rfl ho (by decide) (by decide) rfl ?_
  refine ru_st 19 rfl rfl ?_
  refine ru_ic 20 (nI 0) rfl (by decide) rfl ?_
  exact ru_ire rfl rfl rfl rfl
theorem w_sum_1 {d : Nat} {G G1 : ma_G} {p0 : Int32} {fs : List Value} (hx : ma_obj G 1 6 = some fs) (h : Ca d 98 [.ref 1, .int p0] G (.inr 8001, G1, 1, 6)) : Ca (d + 1) 97 [.ref 1, .int p0, .ref 63] G (.inl (some (.int (nI 1))), G1, 1, 6) := by
  refine ca_of rfl ?_
  refine ru_st 1 rfl rfl ?_
  refine ru_ic 2 (nI 0) rfl (by decide) rfl ?_
  refine ru_st 3 rfl rfl ?_
  refine ru_st 4 rfl rfl ?_
  refine ru_callh0 [_, _] _ rfl rfl rfl rfl rfl (Nat.le_of_ble_eq_true rfl) (cats rfl) (rcv_s rfl hx) h rfl (Nat.le_of_ble_eq_true rfl) rfl ?_
  refine ru_ic 13 (nI 1) rfl (by decide) rfl ?_
  exact ru_ire rfl rfl rfl rfl
theorem w_sum_0 {d : Nat} {G G1 : ma_G} {p0 : Int32} {v : Int64} {o : Nat → Int64} (ho : ma_longs G1 63 = some (1, o)) {fs : List Value} (hx : ma_obj G 1 6 = some fs) (h : Ca d 98 [.ref 1, .int p0] G (.inl (some (.long v)), G1, 0, 0)) : Ca (d + 1) 97 [.ref 1, .int p0, .ref 63] G (.inl (some (.int (nI 0))), (outS G1 o v), 0, 0) := by
  refine ca_of rfl ?_
  refine ru_st 1 rfl rfl ?_
  refine ru_ic 2 (nI 0) rfl (by decide) rfl ?_
  refine ru_st 3 rfl rfl ?_
  refine ru_st 4 rfl rfl ?_
  refine ru_call [_, _] _ 7 rfl rfl rfl rfl rfl (Nat.le_of_ble_eq_true rfl) (cats rfl) (rcv_s rfl hx) h rfl ?_
  refine ru_lasN 8 rfl ho (by decide) (by decide) rfl ?_
  refine ru_st 14 rfl rfl ?_
  refine ru_ic 15 (nI 0) rfl (by decide) rfl ?_
  exact ru_ire rfl rfl rfl rfl
