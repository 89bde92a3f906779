/-! RU: rules for the abstract machine; from here on no JVM -/
/-- the rest of method M comes to r -/
def Ru (d : Nat) (M : ma_M) (pc : Nat) (L : ma_L) (S : List Value) (G : ma_G) (r : ma_R) : Prop := ∃ n, ma_run prog (ma_call prog d) d M n pc L S G r
/-- a call of method k comes to r -/
abbrev Ca (d k : Nat) (As : List Value) (G : ma_G) (r : ma_R) : Prop := ma_call prog d k As G r
section RU
variable {d : Nat} {M : ma_M} {pc aux : Nat} {L L' : ma_L} {S S' : List Value} {G G' : ma_G} {r : ma_R}
theorem ca_of {k : Nat} {As : List Value} (hM : prog k = some M) (h : Ru d M 0 (ma_ent As M.nL) [] G r) : Ca (d + 1) k As G r := by
  obtain ⟨n, h⟩ := h
  exact ⟨M, n, hM, h⟩
theorem ru_st {x : Instr} (pc' : Nat) (hf : ma_find M.cd pc = some (x, aux)) (hs : ma_step x aux pc L S G = some (pc', L', S', G')) (k : Ru d M pc' L' S' G' r) : Ru d M pc L S G r := by
  obtain ⟨n, h⟩ := k
  exact ⟨n + 1, x, aux, hf, Or.inl ⟨pc', L', S', G', hs, h⟩⟩
theorem ru_ic {n : Int} (pc' : Nat) (v : Int32) (hf : ma_find M.cd pc = some (.iconst n, aux)) (hv : Int32.ofInt n = v) (hp : pc + 1 = pc') (k : Ru d M pc' L (.int v :: S) G r) : Ru d M pc L S G r := by
  subst hv; subst hp
  exact ru_st _ hf rfl k
theorem ru_bp {n : Int} (pc' : Nat) (v : Int32) (hf : ma_find M.cd pc = some (.bipush n, aux)) (hv : (Int8.ofInt n).toInt32 = v) (hp : pc + 2 = pc') (k : Ru d M pc' L (.int v :: S) G r) : Ru d M pc L S G r := by
  subst hv; subst hp
  exact ru_st _ hf rfl k
theorem ru_sp {n : Int} (pc' : Nat) (v : Int32) (hf : ma_find M.cd pc = some (.sipush n, aux)) (hv : (Int16.ofInt n).toInt32 = v) (hp : pc + 3 = pc') (k : Ru d M pc' L (.int v :: S) G r) : Ru d M pc L S G r := by
  subst hv; subst hp
  exact ru_st _ hf rfl k
theorem ru_addN {a b : Nat} (pc' : Nat) (hf : ma_find M.cd pc = some (.iadd, aux)) (hp : pc + 1 = pc') (k : Ru d M pc' L (.int (nI (a + b)) :: S) G r) : Ru d M pc L (.int (nI b) :: .int (nI a) :: S) G r := by
  subst hp
  exact ru_st _ hf (by rw [← nI_add]; rfl) k
theorem ru_mulN {a b : Nat} (pc' : Nat) (hf : ma_find M.cd pc = some (.imul, aux)) (hp : pc + 1 = pc') (k : Ru d M pc' L (.int (nI (a * b)) :: S) G r) : Ru d M pc L (.int (nI b) :: .int (nI a) :: S) G r := by
  subst hp
  exact ru_st _ hf (by rw [← pk_mul]; rfl) k
theorem ru_subN {a b : Nat} (pc' : Nat) (hf : ma_find M.cd pc = some (.isub, aux)) (hab : b ≤ a) (hp : pc + 1 = pc') (k : Ru d M pc' L (.int (nI (a - b)) :: S) G r) : Ru d M pc L (.int (nI b) :: .int (nI a) :: S) G r := by
  subst hp
  exact ru_st _ hf (by rw [← pk_sub hab]; rfl) k
theorem ru_divN {a b : Nat} (pc' : Nat) (hf : ma_find M.cd pc = some (.idiv, aux)) (ha : a < 2 ^ 31) (hb0 : 0 < b) (hb : b < 2 ^ 31) (hp : pc + 1 = pc') (k : Ru d M pc' L (.int (nI (a / b)) :: S) G r) : Ru d M pc L (.int (nI b) :: .int (nI a) :: S) G r := by
  subst hp
  refine ru_st _ hf ?_ k
  show (if nI b = 0 then none else some _) = _
  rw [if_neg (nI_ne0 hb0 hb), pk_div ha hb0 hb]
theorem ru_remN {a b : Nat} (pc' : Nat) (hf : ma_find M.cd pc = some (.irem, aux)) (ha : a < 2 ^ 31) (hb0 : 0 < b) (hb : b < 2 ^ 31) (hp : pc + 1 = pc') (k : Ru d M pc' L (.int (nI (a % b)) :: S) G r) : Ru d M pc L (.int (nI b) :: .int (nI a) :: S) G r := by
  subst hp
  refine ru_st _ hf ?_ k
  show (if nI b = 0 then none else some _) = _
  rw [if_neg (nI_ne0 hb0 hb), pk_rem ha hb0 hb]
theorem ru_incN {i a : Nat} {n : Int} (pc' b : Nat) (hf : ma_find M.cd pc = some (.iinc i n, aux)) (hl : ma_ldi L i = some (nI a)) (hb : nI a + Int32.ofInt n = nI b) (hL : ma_put1 L i (.int (nI b)) = some L') (hp : pc + 3 = pc') (k : Ru d M pc' L' S G r) : Ru d M pc L S G r := by
  subst hp
  refine ru_st _ hf ?_ k
  simp only [ma_step, hl, hb, hL, Option.map_some]
/-- a branch on a bare int -/
theorem ru_if {c : ClassFile.Cond} {o : Int} {a : Int32} (pc' : Nat) (hf : ma_find M.cd pc = some (.ifCond c o, aux)) (hp : pc + 3 = pc') (kt : ma_if c a = true → Ru d M aux L S G r) (kf : ma_if c a = false → Ru d M pc' L S G r) : Ru d M pc L (.int a :: S) G r := by
  subst hp
  cases h : ma_if c a
  · exact ru_st _ hf (by simp only [ma_step, h]; rfl) (kf h)
  · exact ru_st _ hf (by simp only [ma_step, h]; rfl) (kt h)
theorem ru_cmp {c : ClassFile.Cond} {o : Int} {a b : Int32} (pc' : Nat) (hf : ma_find M.cd pc = some (.if_icmp c o, aux)) (hp : pc + 3 = pc') (kt : ma_cmp c a b = true → Ru d M aux L S G r) (kf : ma_cmp c a b = false → Ru d M pc' L S G r) : Ru d M pc L (.int b :: .int a :: S) G r := by
  subst hp
  cases h : ma_cmp c a b
  · exact ru_st _ hf (by simp only [ma_step, h]; rfl) (kf h)
  · exact ru_st _ hf (by simp only [ma_step, h]; rfl) (kt h)
theorem ru_ift {c : ClassFile.Cond} {o : Int} {a : Int32} (hf : ma_find M.cd pc = some (.ifCond c o, aux)) (h : ma_if c a = true) (k : Ru d M aux L S G r) : Ru d M pc L (.int a :: S) G r := ru_st _ hf (by simp only [ma_step, h]; rfl) k
theorem ru_iff {c : ClassFile.Cond} {o : Int} {a : Int32} (pc' : Nat) (hf : ma_find M.cd pc = some (.ifCond c o, aux)) (hp : pc + 3 = pc') (h : ma_if c a = false) (k : Ru d M pc' L S G r) : Ru d M pc L (.int a :: S) G r := by
  subst hp
  exact ru_st _ hf (by simp only [ma_step, h]; rfl) k
theorem ru_cmpt {c : ClassFile.Cond} {o : Int} {a b : Int32} (hf : ma_find M.cd pc = some (.if_icmp c o, aux)) (h : ma_cmp c a b = true) (k : Ru d M aux L S G r) : Ru d M pc L (.int b :: .int a :: S) G r := ru_st _ hf (by simp only [ma_step, h]; rfl) k
theorem ru_cmpf {c : ClassFile.Cond} {o : Int} {a b : Int32} (pc' : Nat) (hf : ma_find M.cd pc = some (.if_icmp c o, aux)) (hp : pc + 3 = pc') (h : ma_cmp c a b = false) (k : Ru d M pc' L S G r) : Ru d M pc L (.int b :: .int a :: S) G r := by
  subst hp
  exact ru_st _ hf (by simp only [ma_step, h]; rfl) k
/-- heap -/
theorem ru_getf {ix a : Nat} {fs : List Value} {v : Value} (pc' : Nat) (hf : ma_find M.cd pc = some (.getfield ix, aux)) (ho : ma_obj G a (aux / 100) = some fs) (hv : fs[aux % 100]? = some v) (hp : pc + 3 = pc') (k : Ru d M pc' L (v :: S) G r) : Ru d M pc L (.ref a :: S) G r := by
  subst hp
  exact ru_st _ hf (by simp only [ma_step, ho, hv, Option.map_some]) k
theorem ru_puti {ix a : Nat} {fs : List Value} {v : Int32} (pc' : Nat) (hf : ma_find M.cd pc = some (.putfield ix, aux)) (ho : ma_obj G a (aux / 100) = some fs) (hl : aux % 100 < fs.length) (ht : ma_isI (ma_fty (aux / 100) (aux % 100)) = true) (hp : pc + 3 = pc') (k : Ru d M pc' L S (G.set a (.inr (aux / 100, fs.set (aux % 100) (.int v)))) r) : Ru d M pc L (.int v :: .ref a :: S) G r := by
  subst hp
  exact ru_st _ hf (by simp only [ma_step, ho, hl, ht]; simp) k
theorem ru_putr {ix a b : Nat} {fs : List Value} (pc' : Nat) (hf : ma_find M.cd pc = some (.putfield ix, aux)) (ho : ma_obj G a (aux / 100) = some fs) (hl : aux % 100 < fs.length) (ht : ma_isR (ma_fty (aux / 100) (aux % 100)) = true) (hp : pc + 3 = pc') (k : Ru d M pc' L S (G.set a (.inr (aux / 100, fs.set (aux % 100) (.ref b)))) r) : Ru d M pc L (.ref b :: .ref a :: S) G r := by
  subst hp
  exact ru_st _ hf (by simp only [ma_step, ho, hl, ht]; simp) k
theorem ix_N {j n : Nat} (h : j < n) (hn : n < 2 ^ 31) : ma_ix (nI j) n = some j := by
  unfold ma_ix
  rw [if_neg (nI_pos (by omega)), nI_clamp (by omega), if_pos h]
theorem ru_ialN {a j n : Nat} {f : Nat → Int32} (pc' : Nat) (hf : ma_find M.cd pc = some (.iaload, aux)) (ho : ma_ints G a = some (n, f)) (hj : j < n) (hn : n < 2 ^ 31) (hp : pc + 1 = pc') (k : Ru d M pc' L (.int (f j) :: S) G r) : Ru d M pc L (.int (nI j) :: .ref a :: S) G r := by
  subst hp
  refine ru_st _ hf ?_ k
  simp only [ma_step]
  cases hs : ma_scr G a with
  | none => simp only [ho, ix_N hj hn, Option.map_some]
  | some q =>
    obtain ⟨rfl, t, h0⟩ := ma_scr_eq hs
    have h1 := ma_ints_eq ho
    rw [h0] at h1
    cases q
    cases h1
    simp only [ix_N hj hn, Option.map_some]
theorem ru_salN {j n : Nat} {f : Nat → Int32} (pc' : Nat) (hf : ma_find M.cd pc = some (.iaload, aux)) (ho : ma_scr G 0 = some (n, f)) (hj : j < n) (hn : n < 2 ^ 31) (hp : pc + 1 = pc') (k : Ru d M pc' L (.int (f j) :: S) G r) : Ru d M pc L (.int (nI j) :: .ref 0 :: S) G r := by
  subst hp
  refine ru_st _ hf ?_ k
  simp only [ma_step, ho, ix_N hj hn, Option.map_some]
theorem ru_iasN {a j n : Nat} {v : Int32} {f : Nat → Int32} (pc' : Nat) (hf : ma_find M.cd pc = some (.iastore, aux)) (ho : ma_ints G a = some (n, f)) (hj : j < n) (hn : n < 2 ^ 31) (hp : pc + 1 = pc') (k : Ru d M pc' L S (G.set a (.inl (0, n, .inl (upd f j v)))) r) : Ru d M pc L (.int v :: .int (nI j) :: .ref a :: S) G r := by
  subst hp
  refine ru_st _ hf ?_ k
  simp only [ma_step, ho, ix_N hj hn, Option.map_some]
theorem ru_aalN {a j n t b : Nat} {f : Nat → Option Nat} (pc' : Nat) (hf : ma_find M.cd pc = some (.aaload, aux)) (ho : ma_refs G a = some (t, n, f)) (hj : j < n) (hn : n < 2 ^ 31) (hb : f j = some b) (hp : pc + 1 = pc') (k : Ru d M pc' L (.ref b :: S) G r) : Ru d M pc L (.int (nI j) :: .ref a :: S) G r := by
  subst hp
  refine ru_st _ hf ?_ k
  simp only [ma_step, ho, ix_N hj hn, hb, Option.map_some]
/-- ends -/
theorem ru_iret {v : Int32} {ty : FieldType} (hf : ma_find M.cd pc = some (.ireturn, aux)) (hr : M.ret = some ty) (hn : narrow ty (.int v) = .int v) : Ru d M pc L [.int v] G (.inl (some (.int v)), G, 0, 0) :=
  ⟨1, _, _, hf, Or.inr (Or.inr (Or.inl ⟨some (.int v), by simp only [ma_ret, hr, hn, if_true], rfl⟩))⟩
theorem ru_lret {v : Int64} (hf : ma_find M.cd pc = some (.lreturn, aux)) (hr : M.ret = some .long) : Ru d M pc L [.long v] G (.inl (some (.long v)), G, 0, 0) :=
  ⟨1, _, _, hf, Or.inr (Or.inr (Or.inl ⟨some (.long v), by simp only [ma_ret, hr], rfl⟩))⟩
theorem ru_vret (hf : ma_find M.cd pc = some (.return_, aux)) (hr : M.ret = none) : Ru d M pc L [] G (.inl none, G, 0, 0) :=
  ⟨1, _, _, hf, Or.inr (Or.inr (Or.inl ⟨none, by simp only [ma_ret, hr], rfl⟩))⟩
theorem ru_thr {ix : Nat} (hf : ma_find M.cd pc = some (.new ix, aux)) (h1 : 8000 < aux) (h2 : aux ≤ 8002) (hd : 2 ≤ d) (hh : M.hs = []) (hs : (S.map fun v => v.category).sum ≤ 8) : Ru d M pc L S G (.inr aux, G, 1, 6) :=
  ⟨1, _, _, hf, Or.inr (Or.inr (Or.inr (Or.inl ⟨ix, rfl, h1, h2, hd, hh, hs, rfl⟩)))⟩
/-- calls -/
theorem ru_call {x : Instr} {k : Nat} {N : ma_M} (As rest : List Value) {v : Option Value} {G1 : ma_G} (pc' : Nat) (hf : ma_find M.cd pc = some (x, aux)) (hi : ma_inv x aux = some k) (hN : prog k = some N) (hS : S = As.reverse ++ rest) (hna : As.length = N.na) (hr : (rest.map fun v => v.category).sum ≤ 8) (hc : ∀ v ∈ As, v.category = 1) (hrc : ma_rcv N As G)
    (hcl : Ca d k As G (.inl v, G1, 0, 0)) (hp : pc + 3 = pc') (kk : Ru d M pc' L (v.toList ++ rest) G1 r) : Ru d M pc L S G r := by
  subst hp
  obtain ⟨n, h⟩ := kk
  exact ⟨n + 1, x, aux, hf, Or.inr (Or.inr (Or.inr (Or.inr ⟨k, N, As, rest, .inl v, G1, 0, 0, hi, hN, hS, hna, hr, hc, hrc, hcl, r, h, rfl⟩)))⟩
theorem ru_callc {x : Instr} {k : Nat} {N : ma_M} (As rest : List Value) {v : Option Value} {G1 : ma_G} {c1 s1 : Nat} {r' : ma_R} (pc' : Nat) (hf : ma_find M.cd pc = some (x, aux)) (hi : ma_inv x aux = some k) (hN : prog k = some N) (hS : S = As.reverse ++ rest) (hna : As.length = N.na) (hr : (rest.map fun v => v.category).sum ≤ 8) (hc : ∀ v ∈ As, v.category = 1) (hrc : ma_rcv N As G)
    (hcl : Ca d k As G (.inl v, G1, c1, s1)) (hp : pc + 3 = pc') (kk : Ru d M pc' L (v.toList ++ rest) G1 r') : Ru d M pc L S G (ma_add r' c1 s1) := by
  subst hp
  obtain ⟨n, h⟩ := kk
  exact ⟨n + 1, x, aux, hf, Or.inr (Or.inr (Or.inr (Or.inr ⟨k, N, As, rest, .inl v, G1, c1, s1, hi, hN, hS, hna, hr, hc, hrc, hcl, r', h, rfl⟩)))⟩
theorem ru_callt {x : Instr} {k : Nat} {N : ma_M} (As rest : List Value) {z : Nat} {G1 : ma_G} {c1 s1 : Nat} (hf : ma_find M.cd pc = some (x, aux)) (hi : ma_inv x aux = some k) (hN : prog k = some N) (hS : S = As.reverse ++ rest) (hna : As.length = N.na) (hr : (rest.map fun v => v.category).sum ≤ 8) (hc : ∀ v ∈ As, v.category = 1) (hrc : ma_rcv N As G)
    (hcl : Ca d k As G (.inr z, G1, c1, s1)) (hh : M.hs = []) (hx : M.hx = []) : Ru d M pc L S G (.inr z, G1, c1, s1) :=
  ⟨1, x, aux, hf, Or.inr (Or.inr (Or.inr (Or.inr ⟨k, N, As, rest, .inr z, G1, c1, s1, hi, hN, hS, hna, hr, hc, hrc, hcl, by rw [hx]; exact ⟨hh, rfl⟩⟩)))⟩
theorem ru_callh {x : Instr} {k : Nat} {N : ma_M} (As rest : List Value) {z : Nat} {G1 : ma_G} {c1 s1 : Nat} {r' : ma_R} {pc' i : Nat} (hf : ma_find M.cd pc = some (x, aux)) (hi : ma_inv x aux = some k) (hN : prog k = some N) (hS : S = As.reverse ++ rest) (hna : As.length = N.na) (hr : (rest.map fun v => v.category).sum ≤ 8) (hc : ∀ v ∈ As, v.category = 1) (hrc : ma_rcv N As G)
    (hcl : Ca d k As G (.inr z, G1, c1, s1)) (hx : ma_catch M.hx pc z = some (pc', i)) (hil : i < L.length) (hok : ma_ok1 L i = true) (kk : Ru d M pc' (L.set i none) [] G1 r') : Ru d M pc L S G (ma_add r' c1 s1) := by
  obtain ⟨n, h⟩ := kk
  exact ⟨n + 1, x, aux, hf, Or.inr (Or.inr (Or.inr (Or.inr ⟨k, N, As, rest, .inr z, G1, c1, s1, hi, hN, hS, hna, hr, hc, hrc, hcl, by dsimp only; rw [hx]; exact ⟨r', hil, hok, h, rfl⟩⟩)))⟩
theorem rcv_n {N : ma_M} {As : List Value} (h : N.ci = none) : ma_rcv N As G := by rw [ma_rcv, h]; trivial
theorem rcv_s {N : ma_M} {As' : List Value} {h ci : Nat} {fs : List Value} (hc : N.ci = some ci) (ho : ma_obj G h ci = some fs) : ma_rcv N (.ref h :: As') G := by rw [ma_rcv, hc]; exact ⟨h, As', fs, rfl, ho⟩
end RU
/-- an int that says whether P -/
noncomputable def bI (P : Prop) : Int32 := @ite _ P (Classical.propDecidable P) 1 0
theorem bI_t {P : Prop} (h : P) : bI P = 1 := by unfold bI; rw [if_pos h]
theorem bI_f {P : Prop} (h : ¬ P) : bI P = 0 := by unfold bI; rw [if_neg h]
theorem bI_nb (P : Prop) : narrow .boolean (.int (bI P)) = .int (bI P) := by
  by_cases h : P
  · rw [bI_t h]; rfl
  · rw [bI_f h]; rfl
theorem bI_if (P : Prop) : (ma_if .eq (bI P) = true ↔ ¬ P) ∧ (ma_if .ne (bI P) = true ↔ P) := by
  by_cases h : P
  · rw [bI_t h]; simp [ma_if, h]
  · rw [bI_f h]; simp [ma_if, h]
theorem bI_congr {P Q : Prop} (h : P ↔ Q) : bI P = bI Q := by
  by_cases hp : P
  · rw [bI_t hp, bI_t (h.mp hp)]
  · rw [bI_f hp, bI_f (fun q => hp (h.mpr q))]
