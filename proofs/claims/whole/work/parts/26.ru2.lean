/-! RU2: numbers below n; branches on numbers -/
theorem cats {As : List Value} (h : As.all (fun v => v.category == 1) = true) : ∀ v ∈ As, v.category = 1 := fun v hv => by
  have := List.all_eq_true.mp h v hv
  simpa using this
/-- the int i is a number below n -/
def inN (i : Int32) (n : Nat) : Prop := ∃ j : Nat, j < n ∧ i = nI j
theorem inN_of {i : Int32} {n : Nat} (hn : n < 2 ^ 31) (h1 : ¬ i < 0) (h2 : ¬ nI n ≤ i) : inN i n := by
  rcases pk_ix i hn with h | h | ⟨j, h3, h4⟩
  · exact absurd h h1
  · exact absurd h h2
  · exact ⟨j, h3, h4⟩
theorem inN_lo {i : Int32} {n : Nat} (hn : n < 2 ^ 31) (h : i < 0) : ¬ inN i n := fun ⟨j, h1, h2⟩ => by
  subst h2
  exact nI_pos (by omega) h
theorem inN_hi {i : Int32} {n : Nat} (hn : n < 2 ^ 31) (h : nI n ≤ i) : ¬ inN i n := fun ⟨j, h1, h2⟩ => by
  subst h2
  exact nI_ge h1 hn h
theorem inN_N {j n : Nat} (hj : j < 2 ^ 31) (hn : n < 2 ^ 31) : inN (nI j) n ↔ j < n := by
  constructor
  · rintro ⟨k, h1, h2⟩
    have := (nI_eq hj (by omega)).mp h2
    omega
  · exact fun h => ⟨j, h, rfl⟩
def cN (c : ClassFile.Cond) (a b : Nat) : Prop := match c with
  | .eq => a = b
  | .ne => ¬ a = b
  | .lt => a < b
  | .ge => b ≤ a
  | .gt => b < a
  | .le => a ≤ b
theorem ma_cmpN {c : ClassFile.Cond} {a b : Nat} (ha : a < 2 ^ 31) (hb : b < 2 ^ 31) : ma_cmp c (nI a) (nI b) = true ↔ cN c a b := by
  cases c <;> simp only [ma_cmp, cN, decide_eq_true_eq, nI_eq ha hb, nI_ltI ha hb, nI_leI ha hb, nI_ltI hb ha, nI_leI hb ha]
theorem ma_ifN {c : ClassFile.Cond} {a : Nat} (ha : a < 2 ^ 31) : ma_if c (nI a) = true ↔ cN c a 0 := by
  have h : ma_if c (nI a) = ma_cmp c (nI a) (nI 0) := by cases c <;> rfl
  rw [h]
  exact ma_cmpN ha (by decide)
def cI (c : ClassFile.Cond) (a b : Int32) : Prop := match c with
  | .eq => a = b
  | .ne => ¬ a = b
  | .lt => a < b
  | .ge => b ≤ a
  | .gt => b < a
  | .le => a ≤ b
theorem ma_cmpI {c : ClassFile.Cond} {a b : Int32} : ma_cmp c a b = true ↔ cI c a b := by
  cases c <;> simp only [ma_cmp, cI, decide_eq_true_eq]
theorem ma_ifI {c : ClassFile.Cond} {a : Int32} : ma_if c a = true ↔ cI c a 0 := by
  cases c <;> simp only [ma_if, cI, decide_eq_true_eq]
section RU2
variable {d : Nat} {M : ma_M} {pc aux : Nat} {L L' : ma_L} {S S' : List Value} {G G' : ma_G} {r : ma_R}
theorem ru_cmpN {c : ClassFile.Cond} {o : Int} {a b : Nat} (pc' : Nat) (hf : ma_find M.cd pc = some (.if_icmp c o, aux)) (hp : pc + 3 = pc') (ha : a < 2 ^ 31) (hb : b < 2 ^ 31) (kt : cN c a b → Ru d M aux L S G r) (kf : ¬ cN c a b → Ru d M pc' L S G r) : Ru d M pc L (.int (nI b) :: .int (nI a) :: S) G r :=
  ru_cmp pc' hf hp (fun h => kt ((ma_cmpN ha hb).mp h)) (fun h => kf (fun q => by rw [(ma_cmpN ha hb).mpr q] at h; cases h))
theorem ru_ifN {c : ClassFile.Cond} {o : Int} {a : Nat} (pc' : Nat) (hf : ma_find M.cd pc = some (.ifCond c o, aux)) (hp : pc + 3 = pc') (ha : a < 2 ^ 31) (kt : cN c a 0 → Ru d M aux L S G r) (kf : ¬ cN c a 0 → Ru d M pc' L S G r) : Ru d M pc L (.int (nI a) :: S) G r :=
  ru_if pc' hf hp (fun h => kt ((ma_ifN ha).mp h)) (fun h => kf (fun q => by rw [(ma_ifN ha).mpr q] at h; cases h))
theorem ru_cmpI {c : ClassFile.Cond} {o : Int} {a b : Int32} (pc' : Nat) (hf : ma_find M.cd pc = some (.if_icmp c o, aux)) (hp : pc + 3 = pc') (kt : cI c a b → Ru d M aux L S G r) (kf : ¬ cI c a b → Ru d M pc' L S G r) : Ru d M pc L (.int b :: .int a :: S) G r :=
  ru_cmp pc' hf hp (fun h => kt (ma_cmpI.mp h)) (fun h => kf (fun q => by rw [ma_cmpI.mpr q] at h; cases h))
theorem ru_ifI {c : ClassFile.Cond} {o : Int} {a : Int32} (pc' : Nat) (hf : ma_find M.cd pc = some (.ifCond c o, aux)) (hp : pc + 3 = pc') (kt : cI c a 0 → Ru d M aux L S G r) (kf : ¬ cI c a 0 → Ru d M pc' L S G r) : Ru d M pc L (.int a :: S) G r :=
  ru_if pc' hf hp (fun h => kt (ma_ifI.mp h)) (fun h => kf (fun q => by rw [ma_ifI.mpr q] at h; cases h))
theorem ru_ifB {o : Int} {P : Prop} (pc' : Nat) (hf : ma_find M.cd pc = some (.ifCond .eq o, aux)) (hp : pc + 3 = pc') (kt : ¬ P → Ru d M aux L S G r) (kf : P → Ru d M pc' L S G r) : Ru d M pc L (.int (bI P) :: S) G r :=
  ru_if pc' hf hp (fun h => kt ((bI_if P).1.mp h)) (fun h => kf (Classical.byContradiction fun q => by rw [(bI_if P).1.mpr q] at h; cases h))
theorem ru_ifnB {o : Int} {P : Prop} (pc' : Nat) (hf : ma_find M.cd pc = some (.ifCond .ne o, aux)) (hp : pc + 3 = pc') (kt : P → Ru d M aux L S G r) (kf : ¬ P → Ru d M pc' L S G r) : Ru d M pc L (.int (bI P) :: S) G r :=
  ru_if pc' hf hp (fun h => kt ((bI_if P).2.mp h)) (fun h => kf (fun q => by rw [(bI_if P).2.mpr q] at h; cases h))
theorem ru_ire {v v' : Int32} {ty : FieldType} (hf : ma_find M.cd pc = some (.ireturn, aux)) (hr : M.ret = some ty) (he : v = v') (hn : narrow ty (.int v') = .int v') : Ru d M pc L [.int v] G (.inl (some (.int v')), G, 0, 0) := by
  subst he
  exact ru_iret hf hr hn
theorem ru_ld (pc' : Nat) {ix : Nat} (hf : ma_find M.cd pc = some (.ldc ix, aux)) (hp : pc + 2 = pc') (k : Ru d M pc' L (.int (nI aux) :: S) G r) : Ru d M pc L S G r := by
  subst hp
  exact ru_st _ hf rfl k
end RU2
