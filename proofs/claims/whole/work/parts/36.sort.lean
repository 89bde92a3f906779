/-! days in their order -/
def ins (x : Nat) : List Nat → List Nat
  | [] => [x]
  | y :: l => if x < y then x :: y :: l else y :: ins x l
noncomputable def sl (F : Nat → Prop) (dy : Nat → Nat) : Nat → List Nat
  | 0 => []
  | m + 1 => @ite _ (F m) (Classical.propDecidable _) (ins (dy m) (sl F dy m)) (sl F dy m)
section SL
variable {F F' : Nat → Prop} {dy : Nat → Nat}
theorem sl_y {m : Nat} (h : F m) : sl F dy (m + 1) = ins (dy m) (sl F dy m) := by rw [sl, if_pos h]
theorem sl_n {m : Nat} (h : ¬ F m) : sl F dy (m + 1) = sl F dy m := by rw [sl, if_neg h]
theorem sl_congr : ∀ m : Nat, (∀ a, a < m → (F a ↔ F' a)) → sl F dy m = sl F' dy m := by
  intro m
  induction m with
  | zero => intro _; rfl
  | succ m ih =>
    intro h
    have h1 := ih (fun a ha => h a (by omega))
    by_cases q : F m
    · rw [sl_y q, sl_y ((h m (by omega)).mp q), h1]
    · rw [sl_n q, sl_n (fun p => q ((h m (by omega)).mpr p)), h1]
theorem ins_mem {x y : Nat} : ∀ l : List Nat, y ∈ ins x l → y = x ∨ y ∈ l := by
  intro l
  induction l with
  | nil => intro h; rw [ins, List.mem_singleton] at h; exact Or.inl h
  | cons z l ih =>
    intro h
    rw [ins] at h
    split at h
    · rcases List.mem_cons.mp h with h | h
      · exact Or.inl h
      · exact Or.inr h
    · rcases List.mem_cons.mp h with h | h
      · exact Or.inr (List.mem_cons.mpr (Or.inl h))
      · rcases ih h with h | h
        · exact Or.inl h
        · exact Or.inr (List.mem_cons.mpr (Or.inr h))
theorem sl_mem : ∀ (m x : Nat), x ∈ sl F dy m → ∃ a, a < m ∧ F a ∧ dy a = x := by
  intro m
  induction m with
  | zero => intro x h; cases h
  | succ m ih =>
    intro x h
    by_cases q : F m
    · rw [sl_y q] at h
      rcases ins_mem _ h with h | h
      · exact ⟨m, by omega, q, h.symm⟩
      · obtain ⟨a, h1, h2⟩ := ih x h
        exact ⟨a, by omega, h2⟩
    · rw [sl_n q] at h
      obtain ⟨a, h1, h2⟩ := ih x h
      exact ⟨a, by omega, h2⟩
theorem ins_front {x : Nat} : ∀ l : List Nat, (∀ y, y ∈ l → x < y) → ins x l = x :: l := by
  intro l
  cases l with
  | nil => intro _; rfl
  | cons z l => intro h; rw [ins, if_pos (h z (List.mem_cons.mpr (Or.inl rfl)))]
theorem ins_len {x : Nat} : ∀ l : List Nat, (ins x l).length = l.length + 1 := by
  intro l
  induction l with
  | nil => rfl
  | cons z l ih =>
    rw [ins]
    split
    · rfl
    · rw [List.length_cons, ih]; rfl
theorem sl_len : ∀ m : Nat, (sl F dy m).length ≤ m := by
  intro m
  induction m with
  | zero => exact Nat.le_refl 0
  | succ m ih =>
    by_cases q : F m
    · rw [sl_y q, ins_len]; omega
    · rw [sl_n q]; omega
theorem sl_nil : ∀ m : Nat, (∀ a, a < m → ¬ F a) → sl F dy m = [] := by
  intro m
  induction m with
  | zero => intro _; rfl
  | succ m ih => intro h; rw [sl_n (h m (by omega))]; exact ih (fun a ha => h a (by omega))
theorem sl_first {k : Nat} : ∀ m : Nat, k < m → F k → (∀ a, a < m → F a → dy k ≤ dy a) → (∀ a, a < k → F a → dy k < dy a) → sl F dy m = dy k :: sl (fun a => F a ∧ a ≠ k) dy m := by
  intro m
  induction m with
  | zero => intro h; omega
  | succ m ih =>
    intro hk hF h1 h2
    by_cases e : k = m
    · subst e
      rw [sl_y hF, sl_n (F := fun a => F a ∧ a ≠ k) (fun q => q.2 rfl), ins_front _ (fun y hy => by
        obtain ⟨a, ha, hFa, rfl⟩ := sl_mem _ _ hy
        exact h2 a ha hFa)]
      rw [sl_congr (F' := fun a => F a ∧ a ≠ k) k (fun a ha => ⟨fun q => ⟨q, by omega⟩, fun q => q.1⟩)]
    · have h3 := ih (by omega) hF (fun a ha => h1 a (by omega)) h2
      by_cases q : F m
      · rw [sl_y q, sl_y (F := fun a => F a ∧ a ≠ k) ⟨q, fun h => e h.symm⟩, h3, ins, if_neg (by have := h1 m (by omega) q; omega)]
      · rw [sl_n q, sl_n (F := fun a => F a ∧ a ≠ k) (fun h => q h.1), h3]
end SL
/-- behind the one last taken -/
def bhI (ld la day : Int32) (a : Nat) : Prop := ld < day ∨ (day = ld ∧ la < nI a)
theorem bhI_N {ld la : Int32} {d a : Nat} (hd : d < 2 ^ 31) (ha : a < 2 ^ 31) : bhI ld la (nI d) a ↔ ld.toInt < (d : Int) ∨ ((d : Int) = ld.toInt ∧ la.toInt < (a : Int)) := by
  unfold bhI
  rw [Int32.lt_iff_toInt_lt, Int32.lt_iff_toInt_lt, nI_toInt hd, nI_toInt ha, ← Int32.toInt_inj, nI_toInt hd]
theorem bh_step {F : Nat → Prop} {dy : Nat → Nat} {day : Nat → Int32} {ld la : Int32} {k : Nat} (hk : k < 96) (hd : ∀ a, a < 96 → F a → day a = nI (dy a) ∧ dy a ≤ 40000) (hF : F k ∧ bhI ld la (day k) k) (h1 : ∀ a, a < 96 → F a ∧ bhI ld la (day a) a → dy k ≤ dy a) (h2 : ∀ a, a < k → F a ∧ bhI ld la (day a) a → dy k < dy a) :
    ∀ a, a < 96 → ((F a ∧ bhI (nI (dy k)) (nI k) (day a) a) ↔ ((F a ∧ bhI ld la (day a) a) ∧ a ≠ k)) := by
  intro a ha
  obtain ⟨hF1, hF2⟩ := hF
  obtain ⟨e1, e2⟩ := hd k hk hF1
  rw [e1, bhI_N (by omega) (by omega)] at hF2
  constructor
  · rintro ⟨q1, q2⟩
    obtain ⟨f1, f2⟩ := hd a ha q1
    rw [f1, bhI_N (by omega) (by omega), nI_toInt (by omega), nI_toInt (by omega)] at q2
    rw [f1, bhI_N (by omega) (by omega)]
    exact ⟨⟨q1, by omega⟩, fun h => by subst h; omega⟩
  · rintro ⟨⟨q1, q2⟩, q3⟩
    have g1 := h1 a ha ⟨q1, q2⟩
    have g2 : a < k → dy k < dy a := fun h => h2 a h ⟨q1, q2⟩
    obtain ⟨f1, f2⟩ := hd a ha q1
    rw [f1, bhI_N (by omega) (by omega), nI_toInt (by omega), nI_toInt (by omega)]
    exact ⟨q1, by omega⟩
/-- the first of the least below a -/
def NX (F : Nat → Prop) (dy : Nat → Nat) (a : Nat) (nx : Int32) : Prop := (nx = -1 ∧ ∀ x, x < a → ¬ F x) ∨ ∃ k, k < a ∧ nx = nI k ∧ F k ∧ (∀ x, x < a → F x → dy k ≤ dy x) ∧ ∀ x, x < k → F x → dy k < dy x
theorem nI_m1 {k : Nat} (h : k < 2 ^ 31) : ¬ (-1 : Int32) = nI k := fun q => by
  have := nI_pos h
  rw [← q] at this
  exact this (by decide)
theorem NX_0 {F : Nat → Prop} {dy : Nat → Nat} : NX F dy 0 (-1) := Or.inl ⟨rfl, fun x h => absurd h (Nat.not_lt_zero x)⟩
theorem NX_new {F : Nat → Prop} {dy : Nat → Nat} {a : Nat} {nx : Int32} (h : NX F dy a nx) (hF : F a) (hs : ∀ k, k < a → nx = nI k → F k → dy a < dy k) : NX F dy (a + 1) (nI a) := by
  refine Or.inr ⟨a, by omega, rfl, hF, fun x hx hFx => ?_, fun x hx hFx => ?_⟩
  · by_cases e : x = a
    · rw [e]; exact Nat.le_refl _
    · rcases h with ⟨-, h⟩ | ⟨k, hk, h1, h2, h3, h4⟩
      · exact absurd hFx (h x (by omega))
      · have := hs k hk h1 h2
        have := h3 x (by omega) hFx
        omega
  · rcases h with ⟨-, h⟩ | ⟨k, hk, h1, h2, h3, h4⟩
    · exact absurd hFx (h x hx)
    · have := hs k hk h1 h2
      have := h3 x hx hFx
      omega
theorem NX_keep {F : Nat → Prop} {dy : Nat → Nat} {a : Nat} {nx : Int32} (h : NX F dy a nx) (hs : F a → ∃ k, k < a ∧ nx = nI k ∧ dy k ≤ dy a) (ha : a < 2 ^ 31) : NX F dy (a + 1) nx := by
  rcases h with ⟨h0, h⟩ | ⟨k, hk, h1, h2, h3, h4⟩
  · refine Or.inl ⟨h0, fun x hx hF => ?_⟩
    by_cases e : x = a
    · subst e
      obtain ⟨k, hk, q, -⟩ := hs hF
      rw [h0] at q
      exact nI_m1 (by omega) q
    · exact h x (by omega) hF
  · refine Or.inr ⟨k, by omega, h1, h2, fun x hx hF => ?_, h4⟩
    by_cases e : x = a
    · subst e
      obtain ⟨k', hk', q, hle⟩ := hs hF
      rw [h1] at q
      rw [nI_inj (by omega) (by omega) q]
      exact hle
    · exact h3 x (by omega) hF
/-- doses in the order of their days are held against a schedule: how many count, the day of the last that does -/
def jfN (gp : Nat → Int32) (z : Nat) : List Nat → Nat → Int32 → Nat × Int32
  | [], k, lt => (k, lt)
  | x :: l, k, lt => if k = 0 ∨ (k < z ∧ lt + gp k ≤ nI x) then jfN gp z l (k + 1) (nI x) else jfN gp z l k lt
theorem jfN_in (gp : Nat → Int32) (z : Nat) : ∀ (l : List Nat) (k : Nat) (lt : Int32), (jfN gp z l k lt).2 = lt ∧ (jfN gp z l k lt).1 = k ∨ ∃ x, x ∈ l ∧ (jfN gp z l k lt).2 = nI x := by
  intro l
  induction l with
  | nil => intro k lt; exact Or.inl ⟨rfl, rfl⟩
  | cons x l ih =>
    intro k lt
    rw [jfN]
    split
    · rcases ih (k + 1) (nI x) with h | ⟨y, h1, h2⟩
      · exact Or.inr ⟨x, List.mem_cons.mpr (Or.inl rfl), h.1⟩
      · exact Or.inr ⟨y, List.mem_cons.mpr (Or.inr h1), h2⟩
    · rcases ih k lt with h | ⟨y, h1, h2⟩
      · exact Or.inl h
      · exact Or.inr ⟨y, List.mem_cons.mpr (Or.inr h1), h2⟩
def dyA (A : Nat → Nat → Int32) (a : Nat) : Nat := (A 4 (4 * a + 3)).toNatClampNeg
/-- a valid dose of vaccine v to one who is one with p -/
def fit (A : Nat → Nat → Int32) (kn : Nat → Nat → Nat) (c : Nat) (f : Nat → Nat) (p v a : Nat) : Prop := vld A kn c a ∧ (∃ q, q < 12 ∧ A 4 (4 * a) = nI q ∧ f q = f p) ∧ A 4 (4 * a + 1) = nI v
/-- what stands in a known dose -/
def wfD (A : Nat → Nat → Int32) (kn : Nat → Nat → Nat) (c : Nat) : Prop := ∀ a, a < 96 → isK kn c a → A 3 a = nI 1 → ∃ q dd, q < 12 ∧ dd ≤ 40000 ∧ A 4 (4 * a) = nI q ∧ A 4 (4 * a + 3) = nI dd
theorem fit_day {A : Nat → Nat → Int32} {kn : Nat → Nat → Nat} {c : Nat} {f : Nat → Nat} {p v : Nat} (hw : wfD A kn c) : ∀ a, a < 96 → fit A kn c f p v a → A 4 (4 * a + 3) = nI (dyA A a) ∧ dyA A a ≤ 40000 := by
  intro a ha h
  obtain ⟨q, dd, -, h2, -, h4⟩ := hw a ha h.1.1.1 h.1.1.2
  unfold dyA
  rw [h4, nI_clamp (by omega)]
  exact ⟨rfl, h2⟩
/-- the judgement: f the names, k doses count, the last on day l -/
def jd (A : Nat → Nat → Int32) (kn : Nat → Nat → Nat) (c p v z : Nat) (f : Nat → Nat) (k : Nat) (l : Int32) : Prop := isNm A kn c f ∧ jfN (fun i => A 1 (4 * v + i)) z (sl (fit A kn c f p v) (dyA A) 96) 0 (nI 0) = (k, l) ∧ k ≤ z
theorem fit_congr {A : Nat → Nat → Int32} {kn : Nat → Nat → Nat} {c : Nat} {f f' : Nat → Nat} {p v a : Nat} (hp : p < 12) (h : ∀ q, q < 12 → f q = f' q) : fit A kn c f p v a ↔ fit A kn c f' p v a := by
  unfold fit
  constructor
  · rintro ⟨h1, ⟨q, hq, h2, h3⟩, h4⟩
    exact ⟨h1, ⟨q, hq, h2, by rw [← h q hq, ← h p hp]; exact h3⟩, h4⟩
  · rintro ⟨h1, ⟨q, hq, h2, h3⟩, h4⟩
    exact ⟨h1, ⟨q, hq, h2, by rw [h q hq, h p hp]; exact h3⟩, h4⟩
theorem jd_one {A : Nat → Nat → Int32} {kn : Nat → Nat → Nat} {c p v z : Nat} {f f' : Nat → Nat} {k k' : Nat} {l l' : Int32} (hp : p < 12) (h : jd A kn c p v z f k l) (h' : jd A kn c p v z f' k' l') : f p = f' p ∧ k = k' ∧ l = l' := by
  have e := isNm_one h.1 h'.1
  have q := h.2.1
  rw [sl_congr (F' := fit A kn c f' p v) 96 (fun a _ => fit_congr hp e), h'.2.1] at q
  have q1 := congrArg Prod.fst q
  have q2 := congrArg Prod.snd q
  exact ⟨e p hp, q1.symm, q2.symm⟩
theorem jd_pos {A : Nat → Nat → Int32} {kn : Nat → Nat → Nat} {c p v z : Nat} {f : Nat → Nat} {k : Nat} {l : Int32} (h : jd A kn c p v z f k l) (hk : 0 < k) : ∃ a, a < 96 ∧ fit A kn c f p v a ∧ l = nI (dyA A a) := by
  have q := jfN_in (fun i => A 1 (4 * v + i)) z (sl (fit A kn c f p v) (dyA A) 96) 0 (nI 0)
  rw [h.2.1] at q
  rcases q with ⟨-, q⟩ | ⟨x, h1, h2⟩
  · exact absurd hk (by rw [show k = 0 from q]; omega)
  · obtain ⟨a, ha, hF, rfl⟩ := sl_mem _ _ h1
    exact ⟨a, ha, hF, h2⟩
