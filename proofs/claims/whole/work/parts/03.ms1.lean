/-! MS: numbers of cells against addresses. as: the addresses of the cells, by their numbers; tc: the array classes, by their numbers. -/
def ms_rv (as : List Nat) (v : Value) : Value := match v with
  | .ref k => .ref (as.getD k 0)
  | .null => .null
  | .int x => .int x
  | .long x => .long x
  | .float x => .float x
  | .double x => .double x
  | w => w
def ms_rf (as : List Nat) (f : Nat → Option Nat) : Nat → Option Nat := fun j => (f j).map (fun k => as.getD k 0)
def ms_rA (as : List Nat) (a : vp_A) : vp_A := (a.1, match a.2 with
  | .inl f => .inl f
  | .inr (.inl f) => .inr (.inl f)
  | .inr (.inr (.inl f)) => .inr (.inr (.inl f))
  | .inr (.inr (.inr (.inl f))) => .inr (.inr (.inr (.inl f)))
  | .inr (.inr (.inr (.inr f))) => .inr (.inr (.inr (.inr (ms_rf as f)))))
def ms_rE (as : List Nat) (tc : Nat → ClassId) (e : va_E) : va_E := match e with
  | .inl a => .inl (tc a.1, ms_rA as a.2)
  | .inr o => .inr (o.1, o.2.map (ms_rv as))
def ms_at (G : List va_E) (k : Nat) : va_E := (G[k]?).getD (.inr (0, []))
def ms_ws (as : List Nat) (tc : Nat → ClassId) (G : List va_E) : va_W := (List.range (G.length - 1)).map (fun k => (as.getD (k + 1) 0, ms_rE as tc (ms_at G (k + 1))))
/-- no value names a cell that isn't there -/
def ms_wv (n : Nat) (v : Value) : Prop := ∀ k, v = .ref k → k < n
def ms_wE (n : Nat) (e : va_E) : Prop := match e with
  | .inl a => match a.2.2 with
    | .inr (.inr (.inr (.inr f))) => ∀ j k, f j = some k → k < n
    | _ => True
  | .inr o => ∀ v ∈ o.2, ms_wv n v
def ms_wG (G : List va_E) : Prop := ∀ (k : Nat) (e : va_E), G[k]? = some e → ms_wE G.length e
theorem ms_ws_at {as : List Nat} {tc : Nat → ClassId} {G : List va_E} {k : Nat} {e : va_E} (h : G[k + 1]? = some e) : (ms_ws as tc G)[k]? = some (as.getD (k + 1) 0, ms_rE as tc e) := by
  have hl := (List.getElem?_eq_some_iff.mp h).1
  have hk : k < G.length - 1 := by omega
  simp only [ms_ws, List.getElem?_map, List.getElem?_range hk, Option.map_some, ms_at, h, Option.getD_some]
theorem ms_ws_len {as : List Nat} {tc : Nat → ClassId} {G : List va_E} : (ms_ws as tc G).length = G.length - 1 := by simp [ms_ws]
theorem ms_ws_set {as : List Nat} {tc : Nat → ClassId} {G : List va_E} {k : Nat} {e0 e : va_E} (h : G[k + 1]? = some e0) : (ms_ws as tc G).set k (as.getD (k + 1) 0, ms_rE as tc e) = ms_ws as tc (G.set (k + 1) e) := by
  have hl := (List.getElem?_eq_some_iff.mp h).1
  apply List.ext_getElem?
  intro j
  rw [List.getElem?_set]
  by_cases hj : k = j
  · subst hj
    have : (G.set (k + 1) e)[k + 1]? = some e := by simp [hl]
    rw [ms_ws_at this, if_pos rfl, if_pos (by rw [ms_ws_len]; omega)]
  · rw [if_neg hj]
    simp only [ms_ws, List.getElem?_map, List.length_set]
    by_cases hr : j < G.length - 1
    · rw [List.getElem?_range hr]
      simp only [Option.map_some, ms_at]
      rw [List.getElem?_set_ne (by omega)]
    · rw [List.getElem?_eq_none (by simp; omega)]
      rfl
theorem ms_rv_ext {as xs : List Nat} {v : Value} (h : ms_wv as.length v) : ms_rv (as ++ xs) v = ms_rv as v := by
  cases v <;> try rfl
  rename_i k
  have hk : k < as.length := h k rfl
  simp [ms_rv, List.getD_eq_getElem?_getD, List.getElem?_append_left hk]
theorem ms_rE_ext {as xs : List Nat} {tc : Nat → ClassId} {e : va_E} (h : ms_wE as.length e) : ms_rE (as ++ xs) tc e = ms_rE as tc e := by
  rcases e with ⟨t, n, a⟩ | ⟨ci, fs⟩
  · rcases a with f | f | f | f | f <;> try rfl
    have h : ∀ j k, f j = some k → k < as.length := h
    have : ms_rf (as ++ xs) f = ms_rf as f := by
      funext j
      cases hf : f j with
      | none => simp [ms_rf, hf]
      | some k =>
        have hk := h j k hf
        simp [ms_rf, hf, List.getD_eq_getElem?_getD, List.getElem?_append_left hk]
    simp [ms_rE, ms_rA, this]
  · have h : ∀ v ∈ fs, ms_wv as.length v := h
    simp only [ms_rE]
    congr 2
    exact List.map_congr_left (fun v hv => ms_rv_ext (h v hv))
theorem ms_ws_push {as : List Nat} {tc : Nat → ClassId} {G : List va_E} {q : Nat} {e : va_E} (hl : as.length = G.length) (h0 : 0 < G.length) (hw : ms_wG G) (he : ms_wE as.length e) : ms_ws (as ++ [q]) tc (G ++ [e]) = ms_ws as tc G ++ [(q, ms_rE as tc e)] := by
  apply List.ext_getElem?
  intro j
  by_cases hj : j < G.length - 1
  · rw [List.getElem?_append_left (by rw [ms_ws_len]; exact hj)]
    have h1 : (G ++ [e])[j + 1]? = some (G[j + 1]'(by omega)) := by rw [List.getElem?_append_left (by omega), List.getElem?_eq_getElem (by omega)]
    have h2 : G[j + 1]? = some (G[j + 1]'(by omega)) := List.getElem?_eq_getElem (by omega)
    rw [ms_ws_at h1, ms_ws_at h2, ms_rE_ext (by rw [hl]; exact hw _ _ h2)]
    simp [List.getD_eq_getElem?_getD, List.getElem?_append_left (show j + 1 < as.length by omega)]
  · by_cases hj2 : j = G.length - 1
    · subst hj2
      have h1 : (G ++ [e])[G.length - 1 + 1]? = some e := by rw [show G.length - 1 + 1 = G.length by omega]; simp
      rw [ms_ws_at h1, ms_rE_ext he, List.getElem?_append_right (by rw [ms_ws_len]; omega)]
      simp [ms_ws_len, List.getD_eq_getElem?_getD]
      rw [List.getElem?_append_right (by omega)]
      simp [show G.length - 1 + 1 - as.length = 0 by omega]
    · rw [List.getElem?_eq_none (by rw [ms_ws_len]; simp; omega), List.getElem?_eq_none (by simp [ms_ws_len]; omega)]
