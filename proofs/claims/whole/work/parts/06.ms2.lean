/-! MS2: the locals; the stack; what holds throughout a method -/
theorem ms_rv_cat (as : List Nat) (v : Value) : (ms_rv as v).category = v.category := by cases v <;> rfl
def ms_lv (as : List Nat) (L : ma_L) : List (Nat × Value) := (List.range L.length).filterMap (fun i => match L[i]? with
  | some (some v) => some (i, ms_rv as v)
  | _ => none)
theorem ms_lv_mem {as : List Nat} {L : ma_L} {q : Nat × Value} : q ∈ ms_lv as L ↔ ∃ v, L[q.1]? = some (some v) ∧ q.2 = ms_rv as v := by
  constructor
  · intro h
    obtain ⟨i, hi, h⟩ := List.mem_filterMap.mp h
    split at h
    · rename_i v hv
      cases h
      exact ⟨v, hv, rfl⟩
    · cases h
  · rintro ⟨v, h1, h2⟩
    refine List.mem_filterMap.mpr ⟨q.1, List.mem_range.mpr (List.getElem?_eq_some_iff.mp h1).1, ?_⟩
    rw [h1]
    show some (q.1, ms_rv as v) = some q
    rw [← h2]
def ms_L (as : List Nat) (nL : Nat) (ls : Array Slot) (L : ma_L) : Prop := L.length = nL ∧ lv_has ls nL (ms_lv as L)
theorem ms_L.get {as : List Nat} {nL : Nat} {ls : Array Slot} {L : ma_L} (h : ms_L as nL ls L) {i : Nat} {v : Value} (hv : L[i]? = some (some v)) : ls[i]? = some (.val (ms_rv as v)) :=
  h.2.2.2 (i, ms_rv as v) (ms_lv_mem.mpr ⟨v, hv, rfl⟩)
theorem ma_ldi_eq {L : ma_L} {i : Nat} {x : Int32} (h : ma_ldi L i = some x) : L[i]? = some (some (.int x)) := by
  unfold ma_ldi at h
  split at h
  · rename_i y hy
    cases h
    exact hy
  · cases h
theorem ma_ldl_eq {L : ma_L} {i : Nat} {x : Int64} (h : ma_ldl L i = some x) : L[i]? = some (some (.long x)) := by
  unfold ma_ldl at h
  split at h
  · rename_i y hy
    cases h
    exact hy
  · cases h
theorem ma_lda_eq {L : ma_L} {i : Nat} {x : Nat} (h : ma_lda L i = some x) : L[i]? = some (some (.ref x)) := by
  unfold ma_lda at h
  split at h
  · rename_i y hy
    cases h
    exact hy
  · cases h
theorem ms_put1 {as : List Nat} {nL : Nat} {ls : Array Slot} {L L' : ma_L} {i : Nat} {v : Value} (h : ms_L as nL ls L) (hp : ma_put1 L i v = some L') :
    i < nL ∧ ∀ ls' : Array Slot, lv_has ls' nL ((i, ms_rv as v) :: (ms_lv as L).filter (fun q => !(q.1 == i) && !(q.1 + 1 == i && q.2.category == 2))) → ms_L as nL ls' L' := by
  unfold ma_put1 at hp
  split at hp
  · rename_i hi
    split at hp
    · rename_i hok
      cases hp
      refine ⟨h.1 ▸ hi, fun ls' h' => ⟨by simp [h.1], h'.1, h'.2.1, fun q hq => ?_⟩⟩
      obtain ⟨w, h1, h2⟩ := ms_lv_mem.mp hq
      by_cases hqi : q.1 = i
      · rw [hqi, List.getElem?_set_self hi] at h1
        cases h1
        rw [hqi, h2]
        exact h'.2.2 (i, ms_rv as v) List.mem_cons_self
      · rw [List.getElem?_set_ne (fun e => hqi e.symm)] at h1
        refine h'.2.2 q (List.mem_cons_of_mem _ (List.mem_filter.mpr ⟨ms_lv_mem.mpr ⟨w, h1, h2⟩, ?_⟩))
        have hn : (q.1 == i) = false := by simpa using hqi
        simp only [hn, Bool.not_false, Bool.true_and, Bool.not_eq_true', Bool.and_eq_false_iff]
        by_cases hj : q.1 + 1 = i
        · right
          rw [h2, ms_rv_cat]
          subst hj
          simp only [ma_ok1, h1] at hok
          have : w.category = 1 := by simpa using hok
          rw [this]; rfl
        · left
          simpa using hj
    · cases hp
  · cases hp
theorem ms_put2 {as : List Nat} {nL : Nat} {ls : Array Slot} {L L' : ma_L} {i : Nat} {v : Value} (h : ms_L as nL ls L) (hp : ma_put2 L i v = some L') :
    i + 1 < nL ∧ ∀ ls' : Array Slot, lv_has ls' nL ((i, ms_rv as v) :: (ms_lv as L).filter (fun q => !(q.1 == i) && (!(q.1 == i + 1) && !(q.1 + 1 == i && q.2.category == 2)))) → ms_L as nL ls' L' := by
  unfold ma_put2 at hp
  split at hp
  · rename_i hi
    split at hp
    · rename_i hok
      cases hp
      refine ⟨h.1 ▸ hi, fun ls' h' => ⟨by simp [h.1], h'.1, h'.2.1, fun q hq => ?_⟩⟩
      obtain ⟨w, h1, h2⟩ := ms_lv_mem.mp hq
      by_cases hq1 : q.1 = i + 1
      · rw [hq1, List.getElem?_set_self (by simpa using hi)] at h1
        cases h1
      · rw [List.getElem?_set_ne (fun e => hq1 e.symm)] at h1
        by_cases hqi : q.1 = i
        · rw [hqi, List.getElem?_set_self (by omega)] at h1
          cases h1
          rw [hqi, h2]
          exact h'.2.2 (i, ms_rv as v) List.mem_cons_self
        · rw [List.getElem?_set_ne (fun e => hqi e.symm)] at h1
          refine h'.2.2 q (List.mem_cons_of_mem _ (List.mem_filter.mpr ⟨ms_lv_mem.mpr ⟨w, h1, h2⟩, ?_⟩))
          have hn : (q.1 == i) = false := by simpa using hqi
          have hn1 : (q.1 == i + 1) = false := by simpa using hq1
          simp only [hn, hn1, Bool.not_false, Bool.true_and, Bool.not_eq_true', Bool.and_eq_false_iff]
          by_cases hj : q.1 + 1 = i
          · right
            rw [h2, ms_rv_cat]
            subst hj
            simp only [ma_ok1, h1] at hok
            have : w.category = 1 := by simpa using hok
            rw [this]; rfl
          · left
            simpa using hj
    · cases hp
  · cases hp
/-- the values name cells that are there -/
def ms_wL (n : Nat) (L : ma_L) : Prop := ∀ (i : Nat) (v : Value), L[i]? = some (some v) → ms_wv n v
def ms_wS (n : Nat) (S : List Value) : Prop := ∀ v ∈ S, ms_wv n v
theorem ms_wi (n : Nat) (x : Int32) : ms_wv n (.int x) := fun _ h => by cases h
theorem ms_wl (n : Nat) (x : Int64) : ms_wv n (.long x) := fun _ h => by cases h
theorem ms_wr {n k : Nat} (h : k < n) : ms_wv n (.ref k) := fun j e => by cases e; exact h
theorem ms_wS.cons {n : Nat} {v : Value} {S : List Value} (h : ms_wv n v) (hs : ms_wS n S) : ms_wS n (v :: S) := fun w hw => by
  rcases List.mem_cons.mp hw with rfl | hw
  · exact h
  · exact hs w hw
theorem ms_wS.tl {n : Nat} {v : Value} {S : List Value} (hs : ms_wS n (v :: S)) : ms_wS n S := fun w hw => hs w (List.mem_cons_of_mem _ hw)
theorem ms_wS.hd {n : Nat} {v : Value} {S : List Value} (hs : ms_wS n (v :: S)) : ms_wv n v := hs v List.mem_cons_self
theorem ms_wL1 {n : Nat} {L L' : ma_L} {i : Nat} {v : Value} (hp : ma_put1 L i v = some L') (h : ms_wL n L) (hv : ms_wv n v) : ms_wL n L' := by
  unfold ma_put1 at hp
  split at hp
  · rename_i hi
    split at hp
    · cases hp
      intro j w hj
      rw [List.getElem?_set] at hj
      split at hj
      · cases hj; exact hv
      · exact h j w hj
    · cases hp
  · cases hp
theorem ms_wL2 {n : Nat} {L L' : ma_L} {i : Nat} {v : Value} (hp : ma_put2 L i v = some L') (h : ms_wL n L) (hv : ms_wv n v) : ms_wL n L' := by
  unfold ma_put2 at hp
  split at hp
  · rename_i hi
    split at hp
    · cases hp
      intro j w hj
      rw [List.getElem?_set] at hj
      split at hj
      · first | (cases hj; done) | (split at hj <;> cases hj)
      · rw [List.getElem?_set] at hj
        split at hj
        · first | (cases hj; exact hv) | (split at hj; (cases hj; exact hv); cases hj)
        · exact h j w hj
    · cases hp
  · cases hp
