/-! RQ: the same rules where the end is not known beforehand: Rq .. Q: the rest comes to an r with Q r -/
def Rq (d : Nat) (M : ma_M) (pc : Nat) (L : ma_L) (S : List Value) (G : ma_G) (Q : ma_R → Prop) : Prop := ∃ r, Ru d M pc L S G r ∧ Q r
/-- a call returns, at no cost, with Qc -/
def Cq (d k : Nat) (As : List Value) (G : ma_G) (Qc : Option Value → ma_G → Prop) : Prop := ∃ v G', Ca d k As G (.inl v, G', 0, 0) ∧ Qc v G'
def Qr (Qc : Option Value → ma_G → Prop) (r : ma_R) : Prop := ∃ v G', r = (.inl v, G', 0, 0) ∧ Qc v G'
section RQ
variable {d : Nat} {M : ma_M} {pc aux : Nat} {L L' : ma_L} {S S' : List Value} {G G' : ma_G} {Q : ma_R → Prop} {Qc : Option Value → ma_G → Prop}
theorem cq_of {k : Nat} {As : List Value} (hM : prog k = some M) (h : Rq d M 0 (ma_ent As M.nL) [] G (Qr Qc)) : Cq (d + 1) k As G Qc := by
  obtain ⟨r, h, v, G', rfl, hq⟩ := h
  exact ⟨v, G', ca_of hM h, hq⟩
theorem rq_of {r : ma_R} (h : Ru d M pc L S G r) (hq : Q r) : Rq d M pc L S G Q := ⟨r, h, hq⟩
theorem rq_mono {Q' : ma_R → Prop} (h : Rq d M pc L S G Q) (hq : ∀ r, Q r → Q' r) : Rq d M pc L S G Q' := by
  obtain ⟨r, h1, h2⟩ := h
  exact ⟨r, h1, hq r h2⟩
theorem rq_st {x : Instr} (pc' : Nat) (hf : ma_find M.cd pc = some (x, aux)) (hs : ma_step x aux pc L S G = some (pc', L', S', G')) (k : Rq d M pc' L' S' G' Q) : Rq d M pc L S G Q := by
  obtain ⟨r, h9, hq⟩ := k
  exact ⟨r, ru_st pc' hf hs h9, hq⟩
theorem rq_ic {n : Int} (pc' : Nat) (v : Int32) (hf : ma_find M.cd pc = some (.iconst n, aux)) (hv : Int32.ofInt n = v) (hp : pc + 1 = pc') (k : Rq d M pc' L (.int v :: S) G Q) : Rq d M pc L S G Q := by
  obtain ⟨r, h9, hq⟩ := k
  exact ⟨r, ru_ic pc' v hf hv hp h9, hq⟩
theorem rq_bp {n : Int} (pc' : Nat) (v : Int32) (hf : ma_find M.cd pc = some (.bipush n, aux)) (hv : (Int8.ofInt n).toInt32 = v) (hp : pc + 2 = pc') (k : Rq d M pc' L (.int v :: S) G Q) : Rq d M pc L S G Q := by
  obtain ⟨r, h9, hq⟩ := k
  exact ⟨r, ru_bp pc' v hf hv hp h9, hq⟩
theorem rq_sp {n : Int} (pc' : Nat) (v : Int32) (hf : ma_find M.cd pc = some (.sipush n, aux)) (hv : (Int16.ofInt n).toInt32 = v) (hp : pc + 3 = pc') (k : Rq d M pc' L (.int v :: S) G Q) : Rq d M pc L S G Q := by
  obtain ⟨r, h9, hq⟩ := k
  exact ⟨r, ru_sp pc' v hf hv hp h9, hq⟩
theorem rq_addN {a b : Nat} (pc' : Nat) (hf : ma_find M.cd pc = some (.iadd, aux)) (hp : pc + 1 = pc') (k : Rq d M pc' L (.int (nI (a + b)) :: S) G Q) : Rq d M pc L (.int (nI b) :: .int (nI a) :: S) G Q := by
  obtain ⟨r, h9, hq⟩ := k
  exact ⟨r, ru_addN pc' hf hp h9, hq⟩
theorem rq_mulN {a b : Nat} (pc' : Nat) (hf : ma_find M.cd pc = some (.imul, aux)) (hp : pc + 1 = pc') (k : Rq d M pc' L (.int (nI (a * b)) :: S) G Q) : Rq d M pc L (.int (nI b) :: .int (nI a) :: S) G Q := by
  obtain ⟨r, h9, hq⟩ := k
  exact ⟨r, ru_mulN pc' hf hp h9, hq⟩
theorem rq_subN {a b : Nat} (pc' : Nat) (hf : ma_find M.cd pc = some (.isub, aux)) (hab : b ≤ a) (hp : pc + 1 = pc') (k : Rq d M pc' L (.int (nI (a - b)) :: S) G Q) : Rq d M pc L (.int (nI b) :: .int (nI a) :: S) G Q := by
  obtain ⟨r, h9, hq⟩ := k
  exact ⟨r, ru_subN pc' hf hab hp h9, hq⟩
theorem rq_divN {a b : Nat} (pc' : Nat) (hf : ma_find M.cd pc = some (.idiv, aux)) (ha : a < 2 ^ 31) (hb0 : 0 < b) (hb : b < 2 ^ 31) (hp : pc + 1 = pc') (k : Rq d M pc' L (.int (nI (a / b)) :: S) G Q) : Rq d M pc L (.int (nI b) :: .int (nI a) :: S) G Q := by
  obtain ⟨r, h9, hq⟩ := k
  exact ⟨r, ru_divN pc' hf ha hb0 hb hp h9, hq⟩
theorem rq_remN {a b : Nat} (pc' : Nat) (hf : ma_find M.cd pc = some (.irem, aux)) (ha : a < 2 ^ 31) (hb0 : 0 < b) (hb : b < 2 ^ 31) (hp : pc + 1 = pc') (k : Rq d M pc' L (.int (nI (a % b)) :: S) G Q) : Rq d M pc L (.int (nI b) :: .int (nI a) :: S) G Q := by
  obtain ⟨r, h9, hq⟩ := k
  exact ⟨r, ru_remN pc' hf ha hb0 hb hp h9, hq⟩
theorem rq_incN {i a : Nat} {n : Int} (pc' b : Nat) (hf : ma_find M.cd pc = some (.iinc i n, aux)) (hl : ma_ldi L i = some (nI a)) (hb : nI a + Int32.ofInt n = nI b) (hL : ma_put1 L i (.int (nI b)) = some L') (hp : pc + 3 = pc') (k : Rq d M pc' L' S G Q) : Rq d M pc L S G Q := by
  obtain ⟨r, h9, hq⟩ := k
  exact ⟨r, ru_incN pc' b hf hl hb hL hp h9, hq⟩
theorem rq_ift {c : ClassFile.Cond} {o : Int} {a : Int32} (hf : ma_find M.cd pc = some (.ifCond c o, aux)) (h : ma_if c a = true) (k : Rq d M aux L S G Q) : Rq d M pc L (.int a :: S) G Q := by
  obtain ⟨r, h9, hq⟩ := k
  exact ⟨r, ru_ift hf h h9, hq⟩
theorem rq_iff {c : ClassFile.Cond} {o : Int} {a : Int32} (pc' : Nat) (hf : ma_find M.cd pc = some (.ifCond c o, aux)) (hp : pc + 3 = pc') (h : ma_if c a = false) (k : Rq d M pc' L S G Q) : Rq d M pc L (.int a :: S) G Q := by
  obtain ⟨r, h9, hq⟩ := k
  exact ⟨r, ru_iff pc' hf hp h h9, hq⟩
theorem rq_cmpt {c : ClassFile.Cond} {o : Int} {a b : Int32} (hf : ma_find M.cd pc = some (.if_icmp c o, aux)) (h : ma_cmp c a b = true) (k : Rq d M aux L S G Q) : Rq d M pc L (.int b :: .int a :: S) G Q := by
  obtain ⟨r, h9, hq⟩ := k
  exact ⟨r, ru_cmpt hf h h9, hq⟩
theorem rq_cmpf {c : ClassFile.Cond} {o : Int} {a b : Int32} (pc' : Nat) (hf : ma_find M.cd pc = some (.if_icmp c o, aux)) (hp : pc + 3 = pc') (h : ma_cmp c a b = false) (k : Rq d M pc' L S G Q) : Rq d M pc L (.int b :: .int a :: S) G Q := by
  obtain ⟨r, h9, hq⟩ := k
  exact ⟨r, ru_cmpf pc' hf hp h h9, hq⟩
theorem rq_getf {ix a : Nat} {fs : List Value} {v : Value} (pc' : Nat) (hf : ma_find M.cd pc = some (.getfield ix, aux)) (ho : ma_obj G a (aux / 100) = some fs) (hv : fs[aux % 100]? = some v) (hp : pc + 3 = pc') (k : Rq d M pc' L (v :: S) G Q) : Rq d M pc L (.ref a :: S) G Q := by
  obtain ⟨r, h9, hq⟩ := k
  exact ⟨r, ru_getf pc' hf ho hv hp h9, hq⟩
theorem rq_puti {ix a : Nat} {fs : List Value} {v : Int32} (pc' : Nat) (hf : ma_find M.cd pc = some (.putfield ix, aux)) (ho : ma_obj G a (aux / 100) = some fs) (hl : aux % 100 < fs.length) (ht : ma_isI (ma_fty (aux / 100) (aux % 100)) = true) (hp : pc + 3 = pc') (k : Rq d M pc' L S (G.set a (.inr (aux / 100, fs.set (aux % 100) (.int v)))) Q) : Rq d M pc L (.int v :: .ref a :: S) G Q := by
  obtain ⟨r, h9, hq⟩ := k
  exact ⟨r, ru_puti pc' hf ho hl ht hp h9, hq⟩
theorem rq_putr {ix a b : Nat} {fs : List Value} (pc' : Nat) (hf : ma_find M.cd pc = some (.putfield ix, aux)) (ho : ma_obj G a (aux / 100) = some fs) (hl : aux % 100 < fs.length) (ht : ma_isR (ma_fty (aux / 100) (aux % 100)) = true) (hp : pc + 3 = pc') (k : Rq d M pc' L S (G.set a (.inr (aux / 100, fs.set (aux % 100) (.ref b)))) Q) : Rq d M pc L (.ref b :: .ref a :: S) G Q := by
  obtain ⟨r, h9, hq⟩ := k
  exact ⟨r, ru_putr pc' hf ho hl ht hp h9, hq⟩
theorem rq_ialN {a j n : Nat} {f : Nat → Int32} (pc' : Nat) (hf : ma_find M.cd pc = some (.iaload, aux)) (ho : ma_ints G a = some (n, f)) (hj : j < n) (hn : n < 2 ^ 31) (hp : pc + 1 = pc') (k : Rq d M pc' L (.int (f j) :: S) G Q) : Rq d M pc L (.int (nI j) :: .ref a :: S) G Q := by
  obtain ⟨r, h9, hq⟩ := k
  exact ⟨r, ru_ialN pc' hf ho hj hn hp h9, hq⟩
theorem rq_salN {j n : Nat} {f : Nat → Int32} (pc' : Nat) (hf : ma_find M.cd pc = some (.iaload, aux)) (ho : ma_scr G 0 = some (n, f)) (hj : j < n) (hn : n < 2 ^ 31) (hp : pc + 1 = pc') (k : Rq d M pc' L (.int (f j) :: S) G Q) : Rq d M pc L (.int (nI j) :: .ref 0 :: S) G Q := by
  obtain ⟨r, h9, hq⟩ := k
  exact ⟨r, ru_salN pc' hf ho hj hn hp h9, hq⟩
theorem rq_iasN {a j n : Nat} {v : Int32} {f : Nat → Int32} (pc' : Nat) (hf : ma_find M.cd pc = some (.iastore, aux)) (ho : ma_ints G a = some (n, f)) (hj : j < n) (hn : n < 2 ^ 31) (hp : pc + 1 = pc') (k : Rq d M pc' L S (G.set a (.inl (0, n, .inl (upd f j v)))) Q) : Rq d M pc L (.int v :: .int (nI j) :: .ref a :: S) G Q := by
  obtain ⟨r, h9, hq⟩ := k
  exact ⟨r, ru_iasN pc' hf ho hj hn hp h9, hq⟩
theorem rq_aalN {a j n t b : Nat} {f : Nat → Option Nat} (pc' : Nat) (hf : ma_find M.cd pc = some (.aaload, aux)) (ho : ma_refs G a = some (t, n, f)) (hj : j < n) (hn : n < 2 ^ 31) (hb : f j = some b) (hp : pc + 1 = pc') (k : Rq d M pc' L (.ref b :: S) G Q) : Rq d M pc L (.int (nI j) :: .ref a :: S) G Q := by
  obtain ⟨r, h9, hq⟩ := k
  exact ⟨r, ru_aalN pc' hf ho hj hn hb hp h9, hq⟩
theorem rq_call {x : Instr} {k : Nat} {N : ma_M} (As rest : List Value) {v : Option Value} {G1 : ma_G} (pc' : Nat) (hf : ma_find M.cd pc = some (x, aux)) (hi : ma_inv x aux = some k) (hN : prog k = some N) (hS : S = As.reverse ++ rest) (hna : As.length = N.na) (hr : (rest.map fun v => v.category).sum ≤ 8) (hc : ∀ v ∈ As, v.category = 1) (hrc : ma_rcv N As G)     (hcl : Ca d k As G (.inl v, G1, 0, 0)) (hp : pc + 3 = pc') (kk : Rq d M pc' L (v.toList ++ rest) G1 Q) : Rq d M pc L S G Q := by
  obtain ⟨r, h9, hq⟩ := kk
  exact ⟨r, ru_call As rest pc' hf hi hN hS hna hr hc hrc hcl hp h9, hq⟩
theorem rq_ld (pc' : Nat) {ix : Nat} (hf : ma_find M.cd pc = some (.ldc ix, aux)) (hp : pc + 2 = pc') (k : Rq d M pc' L (.int (nI aux) :: S) G Q) : Rq d M pc L S G Q := by
  obtain ⟨r, h9, hq⟩ := k
  exact ⟨r, ru_ld pc' hf hp h9, hq⟩
theorem rq_cmpN {c : ClassFile.Cond} {o : Int} {a b : Nat} (pc' : Nat) (hf : ma_find M.cd pc = some (.if_icmp c o, aux)) (hp : pc + 3 = pc') (ha : a < 2 ^ 31) (hb : b < 2 ^ 31) (kt : cN c a b → Rq d M aux L S G Q) (kf : ¬ cN c a b → Rq d M pc' L S G Q) : Rq d M pc L (.int (nI b) :: .int (nI a) :: S) G Q := by
  by_cases h : cN c a b
  · exact rq_cmpt hf ((ma_cmpN ha hb).mpr h) (kt h)
  · exact rq_cmpf pc' hf hp (by rw [← Bool.not_eq_true, ma_cmpN ha hb]; exact h) (kf h)
theorem rq_ifN {c : ClassFile.Cond} {o : Int} {a : Nat} (pc' : Nat) (hf : ma_find M.cd pc = some (.ifCond c o, aux)) (hp : pc + 3 = pc') (ha : a < 2 ^ 31) (kt : cN c a 0 → Rq d M aux L S G Q) (kf : ¬ cN c a 0 → Rq d M pc' L S G Q) : Rq d M pc L (.int (nI a) :: S) G Q := by
  by_cases h : cN c a 0
  · exact rq_ift hf ((ma_ifN ha).mpr h) (kt h)
  · exact rq_iff pc' hf hp (by rw [← Bool.not_eq_true, ma_ifN ha]; exact h) (kf h)
theorem rq_cmpI {c : ClassFile.Cond} {o : Int} {a b : Int32} (pc' : Nat) (hf : ma_find M.cd pc = some (.if_icmp c o, aux)) (hp : pc + 3 = pc') (kt : cI c a b → Rq d M aux L S G Q) (kf : ¬ cI c a b → Rq d M pc' L S G Q) : Rq d M pc L (.int b :: .int a :: S) G Q := by
  by_cases h : cI c a b
  · exact rq_cmpt hf (ma_cmpI.mpr h) (kt h)
  · exact rq_cmpf pc' hf hp (by rw [← Bool.not_eq_true, ma_cmpI]; exact h) (kf h)
theorem rq_ifI {c : ClassFile.Cond} {o : Int} {a : Int32} (pc' : Nat) (hf : ma_find M.cd pc = some (.ifCond c o, aux)) (hp : pc + 3 = pc') (kt : cI c a 0 → Rq d M aux L S G Q) (kf : ¬ cI c a 0 → Rq d M pc' L S G Q) : Rq d M pc L (.int a :: S) G Q := by
  by_cases h : cI c a 0
  · exact rq_ift hf (ma_ifI.mpr h) (kt h)
  · exact rq_iff pc' hf hp (by rw [← Bool.not_eq_true, ma_ifI]; exact h) (kf h)
theorem rq_ifB {o : Int} {P : Prop} (pc' : Nat) (hf : ma_find M.cd pc = some (.ifCond .eq o, aux)) (hp : pc + 3 = pc') (kt : ¬ P → Rq d M aux L S G Q) (kf : P → Rq d M pc' L S G Q) : Rq d M pc L (.int (bI P) :: S) G Q := by
  by_cases h : P
  · exact rq_iff pc' hf hp (by rw [← Bool.not_eq_true, (bI_if P).1]; exact fun q => q h) (kf h)
  · exact rq_ift hf ((bI_if P).1.mpr h) (kt h)
theorem rq_ifnB {o : Int} {P : Prop} (pc' : Nat) (hf : ma_find M.cd pc = some (.ifCond .ne o, aux)) (hp : pc + 3 = pc') (kt : P → Rq d M aux L S G Q) (kf : ¬ P → Rq d M pc' L S G Q) : Rq d M pc L (.int (bI P) :: S) G Q := by
  by_cases h : P
  · exact rq_ift hf ((bI_if P).2.mpr h) (kt h)
  · exact rq_iff pc' hf hp (by rw [← Bool.not_eq_true, (bI_if P).2]; exact h) (kf h)
/-- a call whose end isn't known beforehand -/
theorem rq_callq {x : Instr} {k : Nat} {N : ma_M} (As rest : List Value) (pc' : Nat) (hf : ma_find M.cd pc = some (x, aux)) (hi : ma_inv x aux = some k) (hN : prog k = some N) (hS : S = As.reverse ++ rest) (hna : As.length = N.na) (hr : (rest.map fun v => v.category).sum ≤ 8) (hc : ∀ v ∈ As, v.category = 1) (hrc : ma_rcv N As G)
    (hcl : Cq d k As G Qc) (hp : pc + 3 = pc') (kk : ∀ v G1, Qc v G1 → Rq d M pc' L (v.toList ++ rest) G1 Q) : Rq d M pc L S G Q := by
  obtain ⟨v, G1, h1, h2⟩ := hcl
  exact rq_call As rest pc' hf hi hN hS hna hr hc hrc h1 hp (kk v G1 h2)
theorem rq_iret {v : Int32} {ty : FieldType} (hf : ma_find M.cd pc = some (.ireturn, aux)) (hr : M.ret = some ty) (hn : narrow ty (.int v) = .int v) (hq : Qc (some (.int v)) G) : Rq d M pc L [.int v] G (Qr Qc) := ⟨_, ru_iret hf hr hn, _, _, rfl, hq⟩
theorem rq_lret {v : Int64} (hf : ma_find M.cd pc = some (.lreturn, aux)) (hr : M.ret = some .long) (hq : Qc (some (.long v)) G) : Rq d M pc L [.long v] G (Qr Qc) := ⟨_, ru_lret hf hr, _, _, rfl, hq⟩
theorem rq_vret (hf : ma_find M.cd pc = some (.return_, aux)) (hr : M.ret = none) (hq : Qc none G) : Rq d M pc L [] G (Qr Qc) := ⟨_, ru_vret hf hr, _, _, rfl, hq⟩
end RQ
