/-! MS8: making cells -/
theorem ms_wv.mono {n n' : Nat} {v : Value} (h : ms_wv n v) (hn : n ≤ n') : ms_wv n' v := fun k e => Nat.lt_of_lt_of_le (h k e) hn
theorem ms_wE.mono {n n' : Nat} {e : va_E} (h : ms_wE n e) (hn : n ≤ n') : ms_wE n' e := by
  rcases e with ⟨t, k, a⟩ | ⟨ci, fs⟩
  · rcases a with f | f | f | f | f <;> try trivial
    have h : ∀ j k, f j = some k → k < n := h
    exact fun j k hj => Nat.lt_of_lt_of_le (h j k hj) hn
  · have h : ∀ v ∈ fs, ms_wv n v := h
    exact fun v hv => (h v hv).mono hn
theorem ms_wL.mono {n n' : Nat} {L : ma_L} (h : ms_wL n L) (hn : n ≤ n') : ms_wL n' L := fun i v hv => (h i v hv).mono hn
theorem ms_wS.mono {n n' : Nat} {S : List Value} (h : ms_wS n S) (hn : n ≤ n') : ms_wS n' S := fun v hv => (h v hv).mono hn
theorem ms_L.ext {as xs : List Nat} {nL : Nat} {ls : Array Slot} {L : ma_L} (h : ms_L as nL ls L) (hw : ms_wL as.length L) : ms_L (as ++ xs) nL ls L := by
  refine ⟨h.1, h.2.1, h.2.2.1, fun q hq => ?_⟩
  obtain ⟨v, h1, h2⟩ := ms_lv_mem.mp hq
  rw [h2, ms_rv_ext (hw _ _ h1)]
  exact h.get h1
theorem ms_S.ext {as xs : List Nat} {S : List Value} (hw : ms_wS as.length S) : S.map (ms_rv (as ++ xs)) = S.map (ms_rv as) := List.map_congr_left (fun v hv => ms_rv_ext (hw v hv))
theorem ms_rv_new {as : List Nat} {q n : Nat} (h : as.length = n) : ms_rv (as ++ [q]) (.ref n) = .ref q := by
  subst h
  simp [ms_rv, List.getD_eq_getElem?_getD]
theorem ms_RA {U : State} {c1 c2 : ClassId} {t : Nat} (h1 : va_RA U c1 (ma_ty t)) (h2 : va_RA U c2 (ma_ty t)) : c1 = c2 := by
  match t, h1, h2 with
  | 0, h1, h2 => exact Option.some.inj ((h1 : U.vm.findClass _ = some c1).symm.trans h2)
  | 1, h1, h2 => exact Option.some.inj ((h1 : U.vm.findClass _ = some c1).symm.trans h2)
  | 2, ⟨_, _, _, _, _, h1⟩, ⟨_, _, _, _, _, h2⟩ => exact Option.some.inj (h1.symm.trans h2)
  | 3, ⟨_, _, _, _, _, h1⟩, ⟨_, _, _, _, _, h2⟩ => exact Option.some.inj (h1.symm.trans h2)
  | 4, ⟨_, _, _, _, _, h1⟩, ⟨_, _, _, _, _, h2⟩ => exact Option.some.inj (h1.symm.trans h2)
  | n + 5, ⟨_, _, _, _, _, h1⟩, ⟨_, _, _, _, _, h2⟩ => exact Option.some.inj (h1.symm.trans h2)
section MS8
variable {p : Program} {l : Launch} {e : Env} {R : Room} {s : State} {m : MethodId} {args : Array Value} {below : List Frame} {meth : Method} {c : Code} {H : Heap} {locs : List Loc} {cells slots : Nat} {Q : State → Prop}
variable {D : va_G} {tc : Nat → ClassId} {A : Nat → Prop} {M : ma_M} {as0 as : List Nat} {G0 G : ma_G} {pc aux : Nat} {ls : Array Slot} {L : ma_L} {S : List Value}
theorem ms_P.push {H1 : Heap} {q : Nat} {e0 : va_E} (h : ms_P D tc A s as0 G0 as G H locs) (he : ms_wE G.length e0)
    (hP : va_P D vwCl (ms_ws as tc G ++ [(q, ms_rE as tc e0)]) H1) (hD : va_D A (ms_ws as tc G ++ [(q, ms_rE as tc e0)])) (hS : va_S A s.heap H1 locs) : ms_P D tc A s as0 G0 (as ++ [q]) (G ++ [e0]) H1 locs := by
  have hlen := h.len
  obtain ⟨⟨xs, rfl⟩, h2, h3, h4, h5, h6, h7, h8⟩ := h
  have e1 := ms_ws_push (tc := tc) (q := q) (e := e0) h2 hlen h4 (by rw [h2]; exact he)
  refine ⟨⟨xs ++ [q], by rw [List.append_assoc]⟩, by rw [List.length_append, h2, List.length_append]; rfl, h3, ?_, ?_, by rw [e1]; exact hP, by rw [e1]; exact hD, hS⟩
  · intro k x hk
    by_cases hkl : k < G.length
    · rw [List.getElem?_append_left hkl] at hk
      exact (h4 k x hk).mono (by simp)
    · rw [List.getElem?_append_right (by omega)] at hk
      have : k - G.length = 0 := by
        have := (List.getElem?_eq_some_iff.mp hk).1
        simp at this
        omega
      rw [this] at hk
      cases hk
      exact he.mono (by simp)
  · rw [List.getElem?_append_left hlen]
    exact h5
theorem ma_dfl_at {ci k : Nat} (h : k < ma_N ci) : vp_V (ma_dfl ci) k = defaultValue (ma_fty ci k) := by
  simp [vp_V, ma_dfl, List.getD_eq_getElem?_getD, List.getElem?_range h]
theorem ma_dfl_nr (ci : Nat) : ∀ v ∈ ma_dfl ci, ∀ a, v ≠ .ref a := by
  intro v hv a e
  obtain ⟨k, -, h⟩ := List.mem_map.mp hv
  rw [e] at h
  revert h
  generalize ma_fty ci k = t
  cases t <;> intro h <;> cases h
theorem ms_rv_nr {as : List Nat} {v : Value} (h : ∀ a, v ≠ .ref a) : ms_rv as v = v := by
  cases v <;> first | rfl | exact absurd rfl (h _)
theorem ms_new (hC : ms_C p e s m meth c D tc A M as0 G0) {x : Instr} (hat : ma_at M pc x aux) {pc' k : Nat} {S' : List Value} {e0 : va_E} (h : ma_new x aux pc S G = some (pc', S', e0, k))
    (hP : ms_P D tc A s as0 G0 as G H locs) (hL : ms_L as M.nL ls L) (hwL : ms_wL G.length L) (hwS : ms_wS G.length S) (hcs : cells + 1 ≤ R.cells) (hss : slots + k ≤ R.slots)
    (kk : ∀ q H', ms_P D tc A s as0 G0 (as ++ [q]) (G ++ [e0]) H' locs → ms_L (as ++ [q]) M.nL ls L → ms_wL (G ++ [e0]).length L → ms_wS (G ++ [e0]).length S' → W p l e R s m args below meth c H' locs (cells + 1) (slots + k) Q (F0 m pc' ls (S'.map (ms_rv (as ++ [q]))))) :
    W p l e R s m args below meth c H locs cells slots Q (F0 m pc ls (S.map (ms_rv as))) := by
  obtain ⟨hx, hb, hml, hex, hr, hlk, hown, hnm, ⟨hK, hW, hV⟩, hA, hZ, hX, htr⟩ := hC
  have hal : as.length = G.length := hP.2.1
  have hPp := hP.2.2.2.2.2.1
  have hDd := hP.2.2.2.2.2.2.1
  have hSs := hP.2.2.2.2.2.2.2
  have fin : ∀ (S0 : List Value), ms_wS G.length S0 → S' = .ref G.length :: S0 → ms_wE G.length e0 → ∀ q H', va_P D vwCl (ms_ws as tc G ++ [(q, ms_rE as tc e0)]) H' → va_D A (ms_ws as tc G ++ [(q, ms_rE as tc e0)]) → va_S A s.heap H' locs →
      W p l e R s m args below meth c H' locs (cells + 1) (slots + k) Q (F0 m pc' ls (.ref q :: S0.map (ms_rv as))) := fun S0 hw0 hS0 he q H' a1 a2 a3 => by
    subst hS0
    have hk1 := kk q H' (hP.push he a1 a2 a3) (hL.ext (by rw [hal]; exact hwL)) (hwL.mono (by simp)) ((hw0.mono (by simp)).cons (ms_wr (by simp)))
    rw [List.map_cons, ms_rv_new hal, ms_S.ext (by rw [hal]; exact hw0)] at hk1
    exact hk1
  obtain ⟨hd, hc⟩ := hat
  cases x with
  | new ix =>
    simp only [ma_new] at h
    split at h
    · rename_i h8
      cases h
      rw [ma_chk, if_pos h8] at hc
      split at hc
      · rename_i q hq
        simp only [Bool.and_eq_true] at hc
        obtain ⟨⟨hc1, hc2⟩, hc3⟩ := hc
        have hN : ma_N aux = q.2.2 := by simp only [ma_N, hq]
        have hdf : (ma_dfl aux).map (ms_rv as) = ma_dfl aux := by
          conv => rhs; rw [← List.map_id (ma_dfl aux)]
          exact List.map_congr_left (fun v hv => ms_rv_nr (ma_dfl_nr aux v hv))
        have hwe : ms_wE G.length (.inr (aux, ma_dfl aux)) := fun v hv k e => absurd e (ma_dfl_nr aux v hv k)
        refine va_new (D := D) (ci := aux) (fs := ma_dfl aux) (C := q.1) (T := q.2.1) (N := ma_N aux) hx hb hW.good (by rw [hN]; exact (ms_cls hq).1) (ma_fty aux) (by rw [hN]; exact (ms_cls hq).2.1) hown (hW _ _ (ma_in_of hc1) rfl) (by rw [hN]; exact hW _ _ (ma_in_of hc2) rfl) (hW _ _ (ma_in_of hc3) rfl) hK hPp hDd hSs hA (by rw [hN]; exact hq) (fun j hj => (ma_dfl_at hj).symm) hcs hss hd (fun q0 H1 a1 a2 a3 => ?_)
        refine fin S hwS rfl hwe q0 H1 ?_ ?_ a3
        · simp only [ms_rE, hdf]; exact a1
        · simp only [ms_rE, hdf]; exact a2
      · cases hc
    · cases h
  | newarray t =>
    simp only [ma_chk, Bool.and_eq_true, decide_eq_true_eq] at hc
    obtain ⟨ht, hcw⟩ := hc
    simp only [ma_new] at h
    split at h
    · rename_i n S0
      split at h
      · cases h
      · rename_i hn0
        split at h
        · cases h
        · rename_i hn1
          split at h
          · rename_i hax
            cases h
            subst hax
            refine va_newa hx hb (by rw [ht]; exact hW _ _ (ma_in_of hcw) rfl) ht hK hPp hDd hSs hA (a0 := (n.toNatClampNeg, .inl (fun _ => 0))) (fun cA => rfl) hn0 rfl (by show _ * 4 ≤ _; omega) hcs hss hd (fun q0 cA H1 hK' a1 a2 a3 => ?_)
            have hcA : cA = tc 0 := ms_RA (t := 0) (hK'.2 6 (cA, ma_ty 0) (by simp [ms_tys])).2 (hK.2 0 _ (ms_ty_at tc (by decide))).2
            subst hcA
            exact fin S0 hwS.tl rfl trivial q0 H1 a1 a2 a3
          · split at h
            · rename_i hax
              cases h
              subst hax
              refine va_newa hx hb (by rw [ht]; exact hW _ _ (ma_in_of hcw) rfl) ht hK hPp hDd hSs hA (a0 := (n.toNatClampNeg, .inr (.inl (fun _ => 0)))) (fun cA => rfl) hn0 rfl (by show _ * 8 ≤ _; omega) hcs hss hd (fun q0 cA H1 hK' a1 a2 a3 => ?_)
              have hcA : cA = tc 1 := ms_RA (t := 1) (hK'.2 6 (cA, ma_ty 1) (by simp [ms_tys])).2 (hK.2 1 _ (ms_ty_at tc (by decide))).2
              subst hcA
              exact fin S0 hwS.tl rfl trivial q0 H1 a1 a2 a3
            · cases h
    · cases h
  | anewarray ix =>
    simp only [ma_new] at h
    split at h
    · rename_i n S0
      split at h
      · cases h
      · rename_i hn0
        split at h
        · cases h
        · rename_i hn1
          split at h
          · rename_i hax
            cases h
            obtain ⟨C, hCt⟩ := ma_ty_obj hax.1 hax.2
            simp only [ma_chk, hCt, Bool.and_eq_true] at hc
            refine va_newq hx hb hown (hW _ _ (ma_in_of hc.1) rfl) (va_AO.of (hW #[] _ (ma_in_of hc.2) rfl)) hK hPp hDd hSs hA hn0 rfl (by omega) hcs hss hd (fun q0 cA H1 hK' a1 a2 a3 => ?_)
            have hcA : cA = tc aux := ms_RA (t := aux) (by rw [hCt]; exact (hK'.2 6 (cA, .object C) (by simp [ms_tys])).2) (hK.2 aux _ (ms_ty_at tc (by omega))).2
            subst hcA
            exact fin S0 hwS.tl rfl (fun j k hj => by cases hj) q0 H1 a1 a2 a3
          · cases h
    · cases h
  | _ => cases h
end MS8
