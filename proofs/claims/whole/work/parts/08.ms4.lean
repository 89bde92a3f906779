/-! MS4: the instructions on the heap -/
def lw_good : List Cond := lw_tbl.filter (fun w => !ms_ls w)
theorem lw_good_of {w : Cond} (h : w ∈ lw_tbl) (hl : ms_ls w = false) : w ∈ lw_good := List.mem_filter.mpr ⟨h, by rw [hl]; rfl⟩
theorem ms_W.good {U : State} {a : Array Value} (h : ms_W U) : ∀ w ∈ lw_good, w.before a U = true := fun w hw => by
  obtain ⟨h1, h2⟩ := List.mem_filter.mp hw
  exact h a w h1 (by simpa using h2)
theorem ms_lay_ls {C : String} {T : u_T} {N : Nat} {w : Cond} (h : w ∈ u_ws C T N) : ms_ls w = false := by
  obtain ⟨k, -, rfl⟩ := List.mem_map.mp h
  unfold u_lay
  split <;> rfl
theorem ms_cls {ci : Nat} {q : vw_C} (h : vwCl[ci]? = some q) : (∀ w ∈ u_ws q.1 q.2.1 q.2.2, w ∈ lw_good) ∧ (∀ k, k < q.2.2 → parseFieldDescriptor (q.2.1 k).2.2.1 = some (ma_fty ci k)) ∧ (∀ a, a < q.2.2 → ∀ b, b < q.2.2 → a ≠ b → (q.2.1 a).2.1 ≠ (q.2.1 b).2.1) := by
  match ci, h with
  | 0, h => cases h; exact ⟨fun w hw => lw_good_of (inX0 w hw) (ms_lay_ls hw), tyX0_ok, nmX0⟩
  | 1, h => cases h; exact ⟨fun w hw => lw_good_of (inX1 w hw) (ms_lay_ls hw), tyX1_ok, nmX1⟩
  | 2, h => cases h; exact ⟨fun w hw => lw_good_of (inX2 w hw) (ms_lay_ls hw), tyX2_ok, nmX2⟩
  | 3, h => cases h; exact ⟨fun w hw => lw_good_of (inX3 w hw) (ms_lay_ls hw), tyX3_ok, nmX3⟩
  | 4, h => cases h; exact ⟨fun w hw => lw_good_of (inX4 w hw) (ms_lay_ls hw), tyX4_ok, nmX4⟩
  | 5, h => cases h; exact ⟨fun w hw => lw_good_of (inX5 w hw) (ms_lay_ls hw), tyX5_ok, nmX5⟩
  | 6, h => cases h; exact ⟨fun w hw => lw_good_of (inX6 w hw) (ms_lay_ls hw), tyX6_ok, nmX6⟩
  | 7, h => cases h; exact ⟨fun w hw => lw_good_of (inX7 w hw) (ms_lay_ls hw), tyX7_ok, nmX7⟩
  | n + 8, h => simp [vwCl] at h
theorem ma_obj_eq {G : ma_G} {a ci : Nat} {fs : List Value} (h : ma_obj G a ci = some fs) : G[a]? = some (.inr (ci, fs)) := by
  unfold ma_obj at h
  split at h
  · rename_i o ho
    split at h
    · rename_i hc
      cases h
      rw [ho, ← hc]
    · cases h
  · cases h
theorem ma_ints_eq {G : ma_G} {a : Nat} {q : Nat × (Nat → Int32)} (h : ma_ints G a = some q) : G[a]? = some (.inl (0, q.1, .inl q.2)) := by
  unfold ma_ints at h
  split at h
  · rename_i t n f ho
    split at h
    · rename_i hc
      cases h
      rw [ho, ← hc]
    · cases h
  · cases h
theorem ma_longs_eq {G : ma_G} {a : Nat} {q : Nat × (Nat → Int64)} (h : ma_longs G a = some q) : G[a]? = some (.inl (1, q.1, .inr (.inl q.2))) := by
  unfold ma_longs at h
  split at h
  · rename_i t n f ho
    split at h
    · rename_i hc
      cases h
      rw [ho, ← hc]
    · cases h
  · cases h
theorem ma_refs_eq {G : ma_G} {a : Nat} {q : Nat × Nat × (Nat → Option Nat)} (h : ma_refs G a = some q) : G[a]? = some (.inl (q.1, q.2.1, .inr (.inr (.inr (.inr q.2.2))))) ∧ 2 ≤ q.1 ∧ q.1 ≤ 5 := by
  unfold ma_refs at h
  split at h
  · rename_i t n f ho
    split at h
    · rename_i hc
      cases h
      exact ⟨ho, hc⟩
    · cases h
  · cases h
theorem ma_scr_eq {G : ma_G} {a : Nat} {q : Nat × (Nat → Int32)} (h : ma_scr G a = some q) : a = 0 ∧ ∃ t, G[(0 : Nat)]? = some (.inl (t, q.1, .inl q.2)) := by
  unfold ma_scr at h
  split at h
  · rename_i h0
    subst h0
    split at h
    · rename_i t n f ho
      cases h
      exact ⟨rfl, t, ho⟩
    · cases h
  · cases h
theorem ma_ix_eq {i : Int32} {n j : Nat} (h : ma_ix i n = some j) : vp_in i n ∧ i.toNatClampNeg = j := by
  unfold ma_ix at h
  split at h
  · cases h
  · rename_i h0
    split at h
    · rename_i h1
      cases h
      exact ⟨fun q => q.elim h0 (fun q => absurd h1 (Nat.not_lt.mpr q)), rfl⟩
    · cases h
theorem ms_ty_at (tc : Nat → ClassId) {t : Nat} (h : t < 6) : (ms_tys tc)[t]? = some (tc t, ma_ty t) := by simp [ms_tys, List.getElem?_range h]
theorem ms_P.len {D : va_G} {tc : Nat → ClassId} {A : Nat → Prop} {s : State} {as0 : List Nat} {G0 : ma_G} {as : List Nat} {G : ma_G} {H : Heap} {locs : List Loc} (h : ms_P D tc A s as0 G0 as G H locs) : 0 < G.length := by
  obtain ⟨⟨xs, rfl⟩, h2, h3, -⟩ := h
  rw [← h2, List.length_append]; omega
/-- the point behind a write to cell k + 1 -/
theorem ms_P.set {D : va_G} {tc : Nat → ClassId} {A : Nat → Prop} {s : State} {as0 : List Nat} {G0 : ma_G} {as : List Nat} {G : ma_G} {H H1 : Heap} {locs locs1 : List Loc} {k : Nat} {e0 e : va_E} (h : ms_P D tc A s as0 G0 as G H locs) (hk : G[k + 1]? = some e0) (he : ms_wE G.length e)
    (hP : va_P D vwCl ((ms_ws as tc G).set k (as.getD (k + 1) 0, ms_rE as tc e)) H1) (hD : va_D A ((ms_ws as tc G).set k (as.getD (k + 1) 0, ms_rE as tc e))) (hS : va_S A s.heap H1 locs1) : ms_P D tc A s as0 G0 as (G.set (k + 1) e) H1 locs1 := by
  obtain ⟨h1, h2, h3, h4, h5, h6, h7, h8⟩ := h
  have hkl := (List.getElem?_eq_some_iff.mp hk).1
  refine ⟨h1, by simpa using h2, h3, ?_, ?_, by rw [← ms_ws_set hk]; exact hP, by rw [← ms_ws_set hk]; exact hD, hS⟩
  · intro j x hj
    rw [List.length_set]
    by_cases hjk : j = k + 1
    · subst hjk
      rw [List.getElem?_set_self hkl] at hj
      cases hj
      exact he
    · rw [List.getElem?_set_ne (fun e => hjk e.symm)] at hj
      exact h4 j x hj
  · rw [List.getElem?_set_ne (by omega)]
    exact h5
section MS4
variable {p : Program} {l : Launch} {e : Env} {R : Room} {s : State} {m : MethodId} {args : Array Value} {below : List Frame} {meth : Method} {c : Code} {H : Heap} {locs : List Loc} {cells slots : Nat} {Q : State → Prop}
variable {D : va_G} {tc : Nat → ClassId} {A : Nat → Prop} {M : ma_M} {as0 as : List Nat} {G0 G : ma_G} {pc aux : Nat} {ls : Array Slot} {L : ma_L} {S : List Value}
/-- an object is no cell 0 -/
theorem ms_ne0 (hX : ms_X as0 G0 A s s.heap) (hP : ms_P D tc A s as0 G0 as G H locs) {a : Nat} {e : va_E} (h : G[a]? = some e) (he : ∀ n f, e ≠ .inl (9, n, .inl f)) : ∃ k, a = k + 1 := by
  cases a with
  | zero =>
    obtain ⟨n, f, hx, -⟩ := hX
    obtain ⟨-, -, -, -, h5, -⟩ := hP
    rw [h5, hx] at h
    cases h
    exact absurd rfl (he n f)
  | succ k => exact ⟨k, rfl⟩
theorem ms_getf {ix : Nat} (hC : ms_C p e s m meth c D tc A M as0 G0) (hat : ma_at M pc (.getfield ix) aux) (hP : ms_P D tc A s as0 G0 as G H locs) {a : Nat} {fs : List Value} {v : Value} (h : ma_obj G a (aux / 100) = some fs) (hv : fs[aux % 100]? = some v)
    (kk : W p l e R s m args below meth c H locs cells slots Q (F0 m (pc + 3) ls (ms_rv as v :: S))) : W p l e R s m args below meth c H locs cells slots Q (F0 m pc ls (ms_rv as (.ref a) :: S)) := by
  obtain ⟨hx, hb, hml, hex, hr, hlk, hown, hnm, ⟨hK, hW, -⟩, hA, hZ, hX, htr⟩ := hC
  have ho := ma_obj_eq h
  obtain ⟨k, rfl⟩ := ms_ne0 hX hP ho (fun n f q => by cases q)
  obtain ⟨-, -, -, -, -, hPp, -⟩ := hP
  obtain ⟨hd, hc⟩ := hat
  simp only [ma_chk] at hc
  split at hc
  · rename_i q hq
    simp only [Bool.and_eq_true, decide_eq_true_eq] at hc
    obtain ⟨hk, hw⟩ := hc
    exact va_get (D := D) (ci := aux / 100) (C := q.1) (T := q.2.1) (N := q.2.2) hx hb hW.good (ms_cls hq).1 hown hK hPp k (ms_ws_at ho) hq (aux % 100) hk (hW _ _ (ma_in_of hw) rfl) (fun _ h9 => h9) (by rw [List.getElem?_map, hv]; rfl) hd kk
  · cases hc
theorem ms_putf {ix : Nat} (hC : ms_C p e s m meth c D tc A M as0 G0) (hat : ma_at M pc (.putfield ix) aux) (hP : ms_P D tc A s as0 G0 as G H locs) {a : Nat} {fs : List Value} {v : Value} (h : ma_obj G a (aux / 100) = some fs) (hl : aux % 100 < fs.length) (hn : narrow (ma_fty (aux / 100) (aux % 100)) (ms_rv as v) = ms_rv as v) (hf : fits (ma_fty (aux / 100) (aux % 100)) (ms_rv as v) = true) (hwv : ms_wv G.length v)
    (kk : ∀ H' locs', ms_P D tc A s as0 G0 as (G.set a (.inr (aux / 100, fs.set (aux % 100) v))) H' locs' → W p l e R s m args below meth c H' locs' cells slots Q (F0 m (pc + 3) ls S)) : W p l e R s m args below meth c H locs cells slots Q (F0 m pc ls (ms_rv as v :: ms_rv as (.ref a) :: S)) := by
  obtain ⟨hx, hb, hml, hex, hr, hlk, hown, hnm, ⟨hK, hW, -⟩, hA, hZ, hX, htr⟩ := hC
  have ho := ma_obj_eq h
  obtain ⟨k, rfl⟩ := ms_ne0 hX hP ho (fun n f q => by cases q)
  have hPp := hP.2.2.2.2.2.1
  have hDd := hP.2.2.2.2.2.2.1
  have hSs := hP.2.2.2.2.2.2.2
  have hwe : ms_wE G.length (.inr (aux / 100, fs.set (aux % 100) v)) := fun w hw => by
    rcases List.mem_or_eq_of_mem_set hw with hw | rfl
    · exact (hP.2.2.2.1 _ _ ho : ∀ v ∈ fs, _) w hw
    · exact hwv
  have hset : ∀ (H1 : Heap) (locs1 : List Loc), va_P D vwCl ((ms_ws as tc G).set k (as.getD (k + 1) 0, .inr (aux / 100, (fs.map (ms_rv as)).set (aux % 100) (ms_rv as v)))) H1 → va_D A ((ms_ws as tc G).set k (as.getD (k + 1) 0, .inr (aux / 100, (fs.map (ms_rv as)).set (aux % 100) (ms_rv as v)))) → va_S A s.heap H1 locs1 → W p l e R s m args below meth c H1 locs1 cells slots Q (F0 m (pc + 3) ls S) := fun H1 locs1 a1 a2 a3 => by
    have e1 : (.inr (aux / 100, (fs.map (ms_rv as)).set (aux % 100) (ms_rv as v)) : va_E) = ms_rE as tc (.inr (aux / 100, fs.set (aux % 100) v)) := by
      simp [ms_rE, List.map_set]
    rw [e1] at a1 a2
    exact kk H1 locs1 (hP.set ho hwe a1 a2 a3)
  obtain ⟨hd, hc⟩ := hat
  simp only [ma_chk] at hc
  split at hc
  · rename_i q hq
    simp only [Bool.and_eq_true, Bool.or_eq_true, decide_eq_true_eq, Bool.not_eq_true'] at hc
    obtain ⟨⟨hk, hw⟩, hfin⟩ := hc
    rcases hfin with hfin | ⟨⟨hi, hoq⟩, hdq⟩
    · exact va_put (D := D) (ci := aux / 100) (C := q.1) (T := q.2.1) (N := q.2.2) hx hb hW.good (ms_cls hq).1 (ma_fty (aux / 100)) (ms_cls hq).2.1 (ms_cls hq).2.2 hown hK hPp hDd hSs k (ms_ws_at ho) hq (aux % 100) hk (hW _ _ (ma_in_of hw) rfl) (fun _ h9 => h9) hfin ((ms_cls hq).2.1 _ hk) hn hf (by simpa using hl) hd hset
    · by_cases hfin : (q.2.1 (aux % 100)).2.2.2 = true
      · exact va_putF (D := D) (ci := aux / 100) (C := q.1) (T := q.2.1) (N := q.2.2) hx hb hW.good (ms_cls hq).1 (ma_fty (aux / 100)) (ms_cls hq).2.1 (ms_cls hq).2.2 hown hK hPp hDd hSs k (ms_ws_at ho) hq (aux % 100) hk (hW _ _ (ma_in_of hw) rfl) (fun _ h9 => h9) hfin (hnm.trans hi) (hdq.trans hoq.symm) ((ms_cls hq).2.1 _ hk) hn hf (by simpa using hl) hd hset
      · exact va_put (D := D) (ci := aux / 100) (C := q.1) (T := q.2.1) (N := q.2.2) hx hb hW.good (ms_cls hq).1 (ma_fty (aux / 100)) (ms_cls hq).2.1 (ms_cls hq).2.2 hown hK hPp hDd hSs k (ms_ws_at ho) hq (aux % 100) hk (hW _ _ (ma_in_of hw) rfl) (fun _ h9 => h9) (by simpa using hfin) ((ms_cls hq).2.1 _ hk) hn hf (by simpa using hl) hd hset
  · cases hc
theorem ms_iald (hC : ms_C p e s m meth c D tc A M as0 G0) (hat : ma_at M pc .iaload aux) (hP : ms_P D tc A s as0 G0 as G H locs) {a j : Nat} {i : Int32} {q : Nat × (Nat → Int32)} (h : ma_ints G a = some q) (hi : ma_ix i q.1 = some j)
    (kk : W p l e R s m args below meth c H locs cells slots Q (F0 m (pc + 1) ls (.int (q.2 j) :: S))) : W p l e R s m args below meth c H locs cells slots Q (F0 m pc ls (.int i :: ms_rv as (.ref a) :: S)) := by
  obtain ⟨hx, hb, hml, hex, hr, hlk, hown, hnm, ⟨hK, hW, -⟩, hA, hZ, hX, htr⟩ := hC
  have ho := ma_ints_eq h
  obtain ⟨k, rfl⟩ := ms_ne0 hX hP ho (fun n f q => by cases q)
  obtain ⟨hin, rfl⟩ := ma_ix_eq hi
  exact va_iald hx hb hK hP.2.2.2.2.2.1 k 0 (ms_ws_at ho) (ms_ty_at tc (by decide)) hin hat.1 kk
theorem ms_sald (hC : ms_C p e s m meth c D tc A M as0 G0) (hat : ma_at M pc .iaload aux) (hP : ms_P D tc A s as0 G0 as G H locs) {a j : Nat} {i : Int32} {q : Nat × (Nat → Int32)} (h : ma_scr G a = some q) (hi : ma_ix i q.1 = some j)
    (kk : W p l e R s m args below meth c H locs cells slots Q (F0 m (pc + 1) ls (.int (q.2 j) :: S))) : W p l e R s m args below meth c H locs cells slots Q (F0 m pc ls (.int i :: ms_rv as (.ref a) :: S)) := by
  obtain ⟨hx, hb, hml, hex, hr, hlk, hown, hnm, ⟨hK, hW, -⟩, hA, hZ, ⟨n, f, hx0, hxa, hxl, hxA⟩, htr⟩ := hC
  obtain ⟨rfl, t, ho⟩ := ma_scr_eq h
  obtain ⟨⟨xs, rfl⟩, hl, h0, hwG, hg0, hPp, hDd, hSs⟩ := hP
  rw [hg0, hx0] at ho
  cases ho
  obtain ⟨hin, rfl⟩ := ma_ix_eq hi
  have e0 : (as0 ++ xs).getD 0 0 = as0.getD 0 0 := by simp [List.getD_eq_getElem?_getD, List.getElem?_append_left h0]
  show W p l e R s m args below meth c H locs cells slots Q (F0 m pc ls (.int i :: .ref ((as0 ++ xs).getD 0 0) :: S))
  rw [e0]
  exact va_sld hx hb hxa hxl hxA hSs hin hat.1 kk
theorem ms_slen (hC : ms_C p e s m meth c D tc A M as0 G0) (hat : ma_at M pc .arraylength aux) (hP : ms_P D tc A s as0 G0 as G H locs) {a : Nat} {q : Nat × (Nat → Int32)} (h : ma_scr G a = some q)
    (kk : W p l e R s m args below meth c H locs cells slots Q (F0 m (pc + 1) ls (.int (Int32.ofNat q.1) :: S))) : W p l e R s m args below meth c H locs cells slots Q (F0 m pc ls (ms_rv as (.ref a) :: S)) := by
  obtain ⟨hx, hb, hml, hex, hr, hlk, hown, hnm, ⟨hK, hW, -⟩, hA, hZ, ⟨n, f, hx0, hxa, hxl, hxA⟩, htr⟩ := hC
  obtain ⟨rfl, t, ho⟩ := ma_scr_eq h
  obtain ⟨⟨xs, rfl⟩, hl, h0, hwG, hg0, hPp, hDd, hSs⟩ := hP
  rw [hg0, hx0] at ho
  cases ho
  have e0 : (as0 ++ xs).getD 0 0 = as0.getD 0 0 := by simp [List.getD_eq_getElem?_getD, List.getElem?_append_left h0]
  show W p l e R s m args below meth c H locs cells slots Q (F0 m pc ls (.ref ((as0 ++ xs).getD 0 0) :: S))
  rw [e0]
  exact va_slen hx hb hxa hxl hxA hSs hat.1 kk
theorem ms_iast (hC : ms_C p e s m meth c D tc A M as0 G0) (hat : ma_at M pc .iastore aux) (hP : ms_P D tc A s as0 G0 as G H locs) {a j : Nat} {i v : Int32} {q : Nat × (Nat → Int32)} (h : ma_ints G a = some q) (hi : ma_ix i q.1 = some j)
    (kk : ∀ H' locs', ms_P D tc A s as0 G0 as (G.set a (.inl (0, q.1, .inl (upd q.2 j v)))) H' locs' → W p l e R s m args below meth c H' locs' cells slots Q (F0 m (pc + 1) ls S)) : W p l e R s m args below meth c H locs cells slots Q (F0 m pc ls (.int v :: .int i :: ms_rv as (.ref a) :: S)) := by
  obtain ⟨hx, hb, hml, hex, hr, hlk, hown, hnm, ⟨hK, hW, -⟩, hA, hZ, hX, htr⟩ := hC
  have ho := ma_ints_eq h
  obtain ⟨k, rfl⟩ := ms_ne0 hX hP ho (fun n f q => by cases q)
  obtain ⟨hin, rfl⟩ := ma_ix_eq hi
  exact va_iast hx hb hK hP.2.2.2.2.2.1 hP.2.2.2.2.2.2.1 hP.2.2.2.2.2.2.2 k 0 (ms_ws_at ho) (ms_ty_at tc (by decide)) hin hat.1 (fun H1 locs1 a1 a2 a3 => kk H1 locs1 (hP.set ho trivial a1 a2 a3))
theorem ms_lald (hC : ms_C p e s m meth c D tc A M as0 G0) (hat : ma_at M pc .laload aux) (hP : ms_P D tc A s as0 G0 as G H locs) {a j : Nat} {i : Int32} {q : Nat × (Nat → Int64)} (h : ma_longs G a = some q) (hi : ma_ix i q.1 = some j)
    (kk : W p l e R s m args below meth c H locs cells slots Q (F0 m (pc + 1) ls (.long (q.2 j) :: S))) : W p l e R s m args below meth c H locs cells slots Q (F0 m pc ls (.int i :: ms_rv as (.ref a) :: S)) := by
  obtain ⟨hx, hb, hml, hex, hr, hlk, hown, hnm, ⟨hK, hW, -⟩, hA, hZ, hX, htr⟩ := hC
  have ho := ma_longs_eq h
  obtain ⟨k, rfl⟩ := ms_ne0 hX hP ho (fun n f q => by cases q)
  obtain ⟨hin, rfl⟩ := ma_ix_eq hi
  exact va_lald hx hb hK hP.2.2.2.2.2.1 k 1 (ms_ws_at ho) (ms_ty_at tc (by decide)) hin hat.1 kk
theorem ms_last (hC : ms_C p e s m meth c D tc A M as0 G0) (hat : ma_at M pc .lastore aux) (hP : ms_P D tc A s as0 G0 as G H locs) {a j : Nat} {i : Int32} {v : Int64} {q : Nat × (Nat → Int64)} (h : ma_longs G a = some q) (hi : ma_ix i q.1 = some j)
    (kk : ∀ H' locs', ms_P D tc A s as0 G0 as (G.set a (.inl (1, q.1, .inr (.inl (vp_updL q.2 j v))))) H' locs' → W p l e R s m args below meth c H' locs' cells slots Q (F0 m (pc + 1) ls S)) : W p l e R s m args below meth c H locs cells slots Q (F0 m pc ls (.long v :: .int i :: ms_rv as (.ref a) :: S)) := by
  obtain ⟨hx, hb, hml, hex, hr, hlk, hown, hnm, ⟨hK, hW, -⟩, hA, hZ, hX, htr⟩ := hC
  have ho := ma_longs_eq h
  obtain ⟨k, rfl⟩ := ms_ne0 hX hP ho (fun n f q => by cases q)
  obtain ⟨hin, rfl⟩ := ma_ix_eq hi
  exact va_last hx hb hK hP.2.2.2.2.2.1 hP.2.2.2.2.2.2.1 hP.2.2.2.2.2.2.2 k 1 (ms_ws_at ho) (ms_ty_at tc (by decide)) hin hat.1 (fun H1 locs1 a1 a2 a3 => kk H1 locs1 (hP.set ho trivial a1 a2 a3))
theorem ma_ty_obj {t : Nat} (h2 : 2 ≤ t) (h5 : t ≤ 5) : ∃ C, ma_ty t = .object C := by
  rcases (show t = 2 ∨ t = 3 ∨ t = 4 ∨ t = 5 by omega) with rfl | rfl | rfl | rfl <;> exact ⟨_, rfl⟩
theorem ms_aald (hC : ms_C p e s m meth c D tc A M as0 G0) (hat : ma_at M pc .aaload aux) (hP : ms_P D tc A s as0 G0 as G H locs) {a j b : Nat} {i : Int32} {q : Nat × Nat × (Nat → Option Nat)} (h : ma_refs G a = some q) (hi : ma_ix i q.2.1 = some j) (hb2 : q.2.2 j = some b)
    (kk : W p l e R s m args below meth c H locs cells slots Q (F0 m (pc + 1) ls (ms_rv as (.ref b) :: S))) : W p l e R s m args below meth c H locs cells slots Q (F0 m pc ls (.int i :: ms_rv as (.ref a) :: S)) := by
  obtain ⟨hx, hb, hml, hex, hr, hlk, hown, hnm, ⟨hK, hW, -⟩, hA, hZ, hX, htr⟩ := hC
  obtain ⟨ho, h2, h5⟩ := ma_refs_eq h
  obtain ⟨k, rfl⟩ := ms_ne0 hX hP ho (fun n f z => by injection z with z; injection z with z1 z2; injection z2 with z3 z4; cases z4)
  obtain ⟨hin, rfl⟩ := ma_ix_eq hi
  obtain ⟨C, hCt⟩ := ma_ty_obj h2 h5
  refine va_aldq hx hb hK hP.2.2.2.2.2.1 k q.1 (C := C) (ms_ws_at ho) (by rw [ms_ty_at tc (by omega), hCt]) hin hat.1 ?_
  have e1 : va_rf (ms_rf as q.2.2 i.toNatClampNeg) = ms_rv as (.ref b) := by simp [ms_rf, hb2, va_rf, ms_rv]
  rw [e1]
  exact kk
theorem ma_tci_cl {t ci : Nat} (h : ma_tci t = some ci) : ∃ r : vw_C, vwCl[ci]? = some r ∧ ma_ty t = .object r.1 ∧ t < 6 := by
  unfold ma_tci at h
  split at h <;> cases h
  · exact ⟨_, rfl, rfl, by decide⟩
  · exact ⟨_, rfl, rfl, by decide⟩
  · exact ⟨_, rfl, rfl, by decide⟩
  · exact ⟨_, rfl, rfl, by decide⟩
theorem ms_aast (hC : ms_C p e s m meth c D tc A M as0 G0) (hat : ma_at M pc .aastore aux) (hP : ms_P D tc A s as0 G0 as G H locs) {a j v ci : Nat} {i : Int32} {q : Nat × Nat × (Nat → Option Nat)} {fs : List Value} (h : ma_refs G a = some q) (hi : ma_ix i q.2.1 = some j) (ht : ma_tci q.1 = some ci) (hv : ma_obj G v ci = some fs)
    (kk : ∀ H' locs', ms_P D tc A s as0 G0 as (G.set a (.inl (q.1, q.2.1, .inr (.inr (.inr (.inr (va_up q.2.2 j (some v)))))))) H' locs' → W p l e R s m args below meth c H' locs' cells slots Q (F0 m (pc + 1) ls S)) : W p l e R s m args below meth c H locs cells slots Q (F0 m pc ls (ms_rv as (.ref v) :: .int i :: ms_rv as (.ref a) :: S)) := by
  obtain ⟨hx, hb, hml, hex, hr, hlk, hown, hnm, ⟨hK, hW, -⟩, hA, hZ, hX, htr⟩ := hC
  obtain ⟨ho, h2, h5⟩ := ma_refs_eq h
  obtain ⟨k, rfl⟩ := ms_ne0 hX hP ho (fun n f z => by injection z with z; injection z with z1 z2; injection z2 with z3 z4; cases z4)
  have hov := ma_obj_eq hv
  have hvl := (List.getElem?_eq_some_iff.mp hov).1
  obtain ⟨kv, rfl⟩ := ms_ne0 hX hP hov (fun n f q => by cases q)
  obtain ⟨hin, rfl⟩ := ma_ix_eq hi
  obtain ⟨r, hr1, hr2, hr3⟩ := ma_tci_cl ht
  refine va_astq hx hb hK hP.2.2.2.2.2.1 hP.2.2.2.2.2.2.1 hP.2.2.2.2.2.2.2 k q.1 kv ci (r := r) (ms_ws_at ho) (by rw [ms_ty_at tc hr3, hr2]) (ms_ws_at hov) hr1 hin hat.1 (fun H1 locs1 a1 a2 a3 => ?_)
  have e1 : (.inl (tc q.1, q.2.1, .inr (.inr (.inr (.inr (va_up (ms_rf as q.2.2) i.toNatClampNeg (some (as.getD (kv + 1) 0))))))) : va_E) = ms_rE as tc (.inl (q.1, q.2.1, .inr (.inr (.inr (.inr (va_up q.2.2 i.toNatClampNeg (some (kv + 1)))))))) := by
    simp only [ms_rE, ms_rA]
    congr 7
    funext x
    simp only [ms_rf, va_up]
    split <;> rfl
  have hwe : ms_wE G.length (.inl (q.1, q.2.1, .inr (.inr (.inr (.inr (va_up q.2.2 i.toNatClampNeg (some (kv + 1)))))))) := fun x y hxy => by
    simp only [va_up] at hxy
    split at hxy
    · cases hxy; exact hvl
    · exact (hP.2.2.2.1 _ _ ho : ∀ j k, q.2.2 j = some k → k < G.length) x y hxy
  rw [e1] at a1 a2
  exact kk H1 locs1 (hP.set ho hwe a1 a2 a3)
end MS4
