/-- what stands on the sticks -/
def mSk (A : Nat → Nat → Int32) (n my wr : Nat → Nat) (sy : Nat → Nat → Nat) (ls : Nat → List Nat) : Prop := ∀ s, s < 3 → wr s < 4 ∧ A 8 s = nI (wr s) ∧ (∀ e, e < 4 → A 9 (4 * s + e) = nI (sy s e) ∧ sy s e ≤ 24) ∧ lstF id (A 11) (96 * s) (ls s) ∧ (ls s).length = my s ∧ ∀ x, x ∈ ls s → x < 96 ∧ x % 24 < n (x / 24)
/-- c hears from wr, of the first dd books -/
def hrH (hr : Nat → Nat → Nat → Nat) (c wr : Nat) (sy : Nat → Nat) (dd : Nat) : Nat → Nat → Nat → Nat := fun c' b e => if c' = c ∧ b = wr ∧ e < dd ∧ hr c b e < sy e then sy e else hr c' b e
def hrF (hr : Nat → Nat → Nat → Nat) (c wr : Nat) (sy : Nat → Nat) (w : Nat) : Nat → Nat → Nat → Nat := if 0 < w ∧ wr ≠ c then hrH hr c wr sy 4 else hr
theorem hrH_0 (hr : Nat → Nat → Nat → Nat) (c wr : Nat) (sy : Nat → Nat) : hrH hr c wr sy 0 = hr := by
  funext c' b e
  unfold hrH
  rw [if_neg (by omega)]
theorem hrH_s {hr : Nat → Nat → Nat → Nat} {c wr : Nat} {sy : Nat → Nat} {dd c' b e : Nat} (h : ¬ (c' = c ∧ b = wr ∧ e = dd)) : hrH hr c wr sy (dd + 1) c' b e = hrH hr c wr sy dd c' b e := by
  unfold hrH
  by_cases q : c' = c ∧ b = wr ∧ e < dd ∧ hr c b e < sy e
  · rw [if_pos q, if_pos ⟨q.1, q.2.1, by omega, q.2.2.2⟩]
  · rw [if_neg q, if_neg (fun p => q ⟨p.1, p.2.1, by omega, p.2.2.2⟩)]
theorem hrH_d {hr : Nat → Nat → Nat → Nat} {c wr : Nat} {sy : Nat → Nat} {dd : Nat} : hrH hr c wr sy dd c wr dd = hr c wr dd ∧ hrH hr c wr sy (dd + 1) c wr dd = (if hr c wr dd < sy dd then sy dd else hr c wr dd) := by
  unfold hrH
  refine ⟨if_neg (by omega), ?_⟩
  by_cases q : hr c wr dd < sy dd
  · rw [if_pos ⟨rfl, rfl, by omega, q⟩, if_pos q]
  · rw [if_neg (fun p => q p.2.2.2), if_neg q]
theorem mHr_up {A : Nat → Nat → Int32} {g6 : Nat → Int32} {hr : Nat → Nat → Nat → Nat} {c wr : Nat} {sy : Nat → Nat} {dd z : Nat} (hc : c < 4) (hw : wr < 4) (hd : dd < 4) (hs : sy dd ≤ 24) (h : mHr (va_up A 6 g6) (hrH hr c wr sy dd)) (hz : z = hrH hr c wr sy (dd + 1) c wr dd) : mHr (va_up A 6 (upd g6 (16 * c + 4 * wr + dd) (nI z))) (hrH hr c wr sy (dd + 1)) := by
  intro c' b e h1 h2 h3
  show upd g6 (16 * c + 4 * wr + dd) (nI z) (16 * c' + 4 * b + e) = _ ∧ _
  by_cases q : c' = c ∧ b = wr ∧ e = dd
  · obtain ⟨rfl, rfl, rfl⟩ := q
    refine ⟨by rw [pk_us, hz], ?_⟩
    have := (h c' b e h1 h2 h3).2
    rw [hrH_d.1] at this
    rw [hrH_d.2]
    split <;> omega
  · rw [pk_un (by omega), hrH_s q]
    exact h c' b e h1 h2 h3
def kup (q : Nat → Nat → Nat) (c e : Nat) : Nat → Nat → Nat := fun c' e' => if c' = c ∧ e' = e then q c e + 1 else q c' e'
theorem mKn_up {A : Nat → Nat → Int32} {g5 : Nat → Int32} {n : Nat → Nat} {q : Nat → Nat → Nat} {c e : Nat} (hc : c < 4) (he : e < 4) (h : mKn (va_up A 5 g5) n q) (hn : q c e < n e) : mKn (va_up A 5 (upd g5 (4 * c + e) (nI (q c e + 1)))) n (kup q c e) := by
  refine ⟨h.1, fun c' e' h1 h2 => ?_⟩
  show upd g5 (4 * c + e) (nI (q c e + 1)) (4 * c' + e') = _ ∧ _
  unfold kup
  by_cases p : c' = c ∧ e' = e
  · obtain ⟨rfl, rfl⟩ := p
    rw [if_pos ⟨rfl, rfl⟩]
    exact ⟨pk_us, by omega⟩
  · rw [if_neg p, pk_un (by omega)]
    exact h.2 c' e' h1 h2
/-- c reads the first k of the list -/
def ldS (kn : Nat → Nat → Nat) (c : Nat) (l : List Nat) : Nat → (Nat → Nat → Nat) × Nat
  | 0 => (kn, 0)
  | k + 1 => if (l.getD k 0) % 24 = (ldS kn c l k).1 c (l.getD k 0 / 24) then (kup (ldS kn c l k).1 c (l.getD k 0 / 24), (ldS kn c l k).2 + 1) else ldS kn c l k
theorem ldS_le {kn : Nat → Nat → Nat} {c : Nat} {l : List Nat} : ∀ k, (ldS kn c l k).2 ≤ k := by
  intro k
  induction k with
  | zero => exact Nat.le_refl 0
  | succ k ih =>
    rw [ldS]
    split
    · show (ldS kn c l k).2 + 1 ≤ k + 1
      omega
    · omega
theorem ldS_y {kn : Nat → Nat → Nat} {c : Nat} {l : List Nat} {k : Nat} (h : (l.getD k 0) % 24 = (ldS kn c l k).1 c (l.getD k 0 / 24)) : ldS kn c l (k + 1) = (kup (ldS kn c l k).1 c (l.getD k 0 / 24), (ldS kn c l k).2 + 1) := by rw [ldS, if_pos h]
theorem ldS_n {kn : Nat → Nat → Nat} {c : Nat} {l : List Nat} {k : Nat} (h : ¬ (l.getD k 0) % 24 = (ldS kn c l k).1 c (l.getD k 0 / 24)) : ldS kn c l (k + 1) = ldS kn c l k := by rw [ldS, if_neg h]
theorem rdN_le (w my : Nat) : rdN w my ≤ my := by
  unfold rdN
  split <;> split <;> omega
theorem getD_mem {l : List Nat} {k : Nat} (h : k < l.length) : l.getD k 0 ∈ l := by
  rw [List.getD_eq_getElem?_getD, List.getElem?_eq_getElem h]
  exact List.getElem_mem h
def loQ (b : Nat) (A : Nat → Nat → Int32) (n w my wr : Nat → Nat) (kn : Nat → Nat → Nat) (hr : Nat → Nat → Nat → Nat) (sy : Nat → Nat → Nat) (ls : Nat → List Nat) (cn lt gd : Int32) (G : ma_G) (c s : Int32) (r : Option Value) (G' : ma_G) : Prop := sm (mIn b) G G' ∧ ((¬ (inN c 4 ∧ inN s 3) ∧ r = some (.int (nI 0)) ∧ mdl b A (nI 1) cn lt gd G') ∨ ∃ cc ss g6 g5, cc < 4 ∧ ss < 3 ∧ c = nI cc ∧ s = nI ss ∧ r = some (.int (nI (ldS kn cc (ls ss) (rdN (w ss) (my ss))).2))
  ∧ mHr (va_up (va_up A 6 g6) 5 g5) (hrF hr cc (wr ss) (sy ss) (w ss)) ∧ mKn (va_up (va_up A 6 g6) 5 g5) n (ldS kn cc (ls ss) (rdN (w ss) (my ss))).1 ∧ mdl b (va_up (va_up A 6 g6) 5 g5) (nI 0) cn lt gd G')
set_option maxHeartbeats 1000000 in
theorem p_X7_load (d : Nat) {b : Nat} {A : Nat → Nat → Int32} {t cn lt gd : Int32} {G : ma_G} (hm : mdl b A t cn lt gd G) {n : Nat → Nat} {kn : Nat → Nat → Nat} (hk : mKn A n kn) {hr : Nat → Nat → Nat → Nat} (hh : mHr A hr) {w my wr : Nat → Nat} (hst : mSt A w my) {sy : Nat → Nat → Nat} {ls : Nat → List Nat} (hsk0 : mSk A n my wr sy ls) (c s : Int32) : Cq (d + 2) 113 [.ref b, .int c, .int s] G (loQ b A n w my wr kn hr sy ls cn lt gd G c s) := by
  refine cq_of rfl ?_
  have Jb : ¬ (inN c 4 ∧ inN s 3) → Rq (d + 1) M_X7_load 21 [some (.ref b), some (.int c), some (.int s), none, none, none] [.ref b] G (Qr (loQ b A n w my wr kn hr sy ls cn lt gd G c s)) := by
    intro hbad
    refine rq_ic 22 (nI 1) rfl (by decide) rfl ?_
    refine rq_puti 25 rfl hm.1 (Nat.le_of_ble_eq_true rfl) rfl rfl ?_
    have hm1 := hm.thr (nI 1)
    refine rq_st 26 rfl rfl ?_
    refine rq_getf 29 rfl hm1.1 rfl rfl ?_
    refine rq_iff 32 rfl rfl (by decide) ?_
    refine rq_ic 33 (nI 0) rfl (by decide) rfl ?_
    exact rq_iret rfl rfl rfl ⟨sm.rf.set (mIn_0 b), Or.inl ⟨hbad, rfl, hm1⟩⟩
  have start : ∀ cc, cc < 4 → ∀ ss, ss < 3 → ∀ G2 : ma_G, mdl b A (nI 0) cn lt gd G2 → sm (mIn b) G G2 → Rq (d + 1) M_X7_load 36 [some (.ref b), some (.int (nI cc)), some (.int (nI ss)), some (.int (nI 0)), none, none] [] G2 (Qr (loQ b A n w my wr kn hr sy ls cn lt gd G (nI cc) (nI ss))) := by
    intro cc hc ss hs
    have hst1 := hst ss hs
    have hsk := hsk0 ss hs
    have hk8 := hsk.2.1
    have hwr := hsk.1
    have hrd := rdN_le (w ss) (my ss)
    have loop : ∀ (g6 : Nat → Int32) (h6 : Nat → Nat → Nat → Nat), mHr (va_up A 6 g6) (hrF hr cc (wr ss) (sy ss) (w ss)) → ∀ (m kk : Nat) (g5 : Nat → Int32) (G2 : ma_G) (o5 : Option Value), kk + m = (rdN (w ss) (my ss)) → mKn (va_up (va_up A 6 g6) 5 g5) n (ldS kn cc (ls ss) kk).1 → mdl b (va_up (va_up A 6 g6) 5 g5) (nI 0) cn lt gd G2 → sm (mIn b) G G2 → Rq (d + 1) M_X7_load 135 [some (.ref b), some (.int (nI cc)), some (.int (nI ss)), some (.int (nI (ldS kn cc (ls ss) kk).2)), some (.int (nI kk)), o5] [] G2 (Qr (loQ b A n w my wr kn hr sy ls cn lt gd G (nI cc) (nI ss))) := by
      intro g6 h6 hmh m
      induction m with
      | zero =>
        intro kk g5 G2 o5 hkk hq hm2 hs2
        refine rq_st 137 rfl rfl ?_
        refine rq_st 138 rfl rfl ?_
        refine rq_st 139 rfl rfl ?_
        refine rq_call [_, _] _ 142 rfl rfl rfl rfl rfl (Nat.le_of_ble_eq_true rfl) (cats rfl) (rcv_s rfl hm2.1) (p_X7_readable d hm2 (A := (va_up (va_up A 6 g6) 5 g5)) hst ss hs) rfl ?_
        refine rq_cmpt rfl ((ma_cmpN (by omega) (by omega)).mpr (by show (rdN (w ss) (my ss)) ≤ kk; omega)) ?_
        refine rq_st 216 rfl rfl ?_
        exact rq_iret rfl rfl rfl ⟨hs2, Or.inr ⟨cc, ss, g6, g5, hc, hs, rfl, rfl, by rw [show (rdN (w ss) (my ss)) = kk by omega], hmh, by rw [show (rdN (w ss) (my ss)) = kk by omega]; exact hq, hm2⟩⟩
      | succ m ih =>
        intro kk g5 G2 o5 hkk hq hm2 hs2
        have hx : A 11 (96 * ss + kk) = nI ((ls ss).getD kk 0) := hsk.2.2.2.1 kk (by rw [hsk.2.2.2.2.1]; omega)
        have hx9 := hsk.2.2.2.2.2 _ (getD_mem (l := ls ss) (k := kk) (by rw [hsk.2.2.2.2.1]; omega))
        have hfr := ldS_le (kn := kn) (c := cc) (l := ls ss) kk
        refine rq_st 137 rfl rfl ?_
        refine rq_st 138 rfl rfl ?_
        refine rq_st 139 rfl rfl ?_
        refine rq_call [_, _] _ 142 rfl rfl rfl rfl rfl (Nat.le_of_ble_eq_true rfl) (cats rfl) (rcv_s rfl hm2.1) (p_X7_readable d hm2 (A := (va_up (va_up A 6 g6) 5 g5)) hst ss hs) rfl ?_
        refine rq_cmpf 145 rfl rfl (by rw [← Bool.not_eq_true, ma_cmpN (by omega) (by omega)]; show ¬ (rdN (w ss) (my ss)) ≤ kk; omega) ?_
        refine rq_st 146 rfl rfl ?_
        refine rq_getf 149 rfl hm2.1 rfl rfl ?_
        refine rq_bp 151 (nI 96) rfl (by decide) rfl ?_
        refine rq_st 152 rfl rfl ?_
        refine rq_mulN 153 rfl rfl ?_
        refine rq_st 155 rfl rfl ?_
        refine rq_addN 156 rfl rfl ?_
        refine rq_ialN 157 rfl (hm2.arrE 11 (n := 288) (f := (A 11)) (by decide) rfl rfl rfl) (by omega) (by decide) rfl ?_
        rw [hx]
        refine rq_bp 159 (nI 24) rfl (by decide) rfl ?_
        refine rq_divN 160 rfl (by omega) (by decide) (by decide) rfl ?_
        refine rq_st 162 rfl rfl ?_
        refine rq_st 163 rfl rfl ?_
        refine rq_getf 166 rfl hm2.1 rfl rfl ?_
        refine rq_bp 168 (nI 96) rfl (by decide) rfl ?_
        refine rq_st 169 rfl rfl ?_
        refine rq_mulN 170 rfl rfl ?_
        refine rq_st 172 rfl rfl ?_
        refine rq_addN 173 rfl rfl ?_
        refine rq_ialN 174 rfl (hm2.arrE 11 (n := 288) (f := (A 11)) (by decide) rfl rfl rfl) (by omega) (by decide) rfl ?_
        rw [hx]
        refine rq_bp 176 (nI 24) rfl (by decide) rfl ?_
        refine rq_remN 177 rfl (by omega) (by decide) (by decide) rfl ?_
        refine rq_st 178 rfl rfl ?_
        refine rq_getf 181 rfl hm2.1 rfl rfl ?_
        refine rq_ic 182 (nI 4) rfl (by decide) rfl ?_
        refine rq_st 183 rfl rfl ?_
        refine rq_mulN 184 rfl rfl ?_
        refine rq_st 186 rfl rfl ?_
        refine rq_addN 187 rfl rfl ?_
        refine rq_ialN 188 rfl (hm2.arrE 5 (n := 16) (f := g5) (by decide) rfl rfl rfl) (by omega) (by decide) rfl ?_
        rw [show g5 (4 * cc + (ls ss).getD kk 0 / 24) = nI ((ldS kn cc (ls ss) kk).1 cc ((ls ss).getD kk 0 / 24)) from (hq.2 cc _ hc (by omega)).1]
        have hqn := hq.2 cc ((ls ss).getD kk 0 / 24) hc (by omega)
        have hn24 := (hq.1 ((ls ss).getD kk 0 / 24) (by omega)).2
        refine rq_cmpN 191 rfl rfl (by omega) (by omega) (fun h188 => ?_) (fun h188 => ?_)
        · dsimp only [cN] at h188
          refine rq_incN 212 _ rfl rfl (nI_1 _) rfl rfl ?_
          refine rq_st 135 rfl rfl ?_
          have q := ih (kk + 1)
          first
            | (rw [ldS_y h188] at q; exact q _ _ _ (by omega) hq3 hm3 (hs2.set (mIn_k (by decide))))
            | (rw [ldS_n h188] at q; exact q _ _ _ (by omega) hq hm2 hs2)
        · dsimp only [cN] at h188
          replace h188 := Classical.byContradiction h188
          refine rq_st 192 rfl rfl ?_
          refine rq_getf 195 rfl hm2.1 rfl rfl ?_
          refine rq_ic 196 (nI 4) rfl (by decide) rfl ?_
          refine rq_st 197 rfl rfl ?_
          refine rq_mulN 198 rfl rfl ?_
          refine rq_st 200 rfl rfl ?_
          refine rq_addN 201 rfl rfl ?_
          refine rq_st 202 rfl rfl ?_
          refine rq_ialN 203 rfl (hm2.arrE 5 (n := 16) (f := g5) (by decide) rfl rfl rfl) (by omega) (by decide) rfl ?_
          rw [show g5 (4 * cc + (ls ss).getD kk 0 / 24) = nI ((ldS kn cc (ls ss) kk).1 cc ((ls ss).getD kk 0 / 24)) from hqn.1]
          refine rq_ic 204 (nI 1) rfl (by decide) rfl ?_
          refine rq_addN 205 rfl rfl ?_
          refine rq_iasN 206 rfl (hm2.arrE 5 (n := 16) (f := g5) (by decide) rfl rfl rfl) (by omega) (by decide) rfl ?_
          have hm3 := hm2.aput 5 (x := b + 6) (n := 16) (g := upd g5 (4 * cc + (ls ss).getD kk 0 / 24) (nI ((ldS kn cc (ls ss) kk).1 cc ((ls ss).getD kk 0 / 24) + 1))) (by decide) rfl rfl
          rw [bx_uu] at hm3
          have hq3 := mKn_up hc (show (ls ss).getD kk 0 / 24 < 4 by omega) hq (by omega)
          refine rq_incN 209 _ rfl rfl (nI_1 _) rfl rfl ?_
          refine rq_incN 212 _ rfl rfl (nI_1 _) rfl rfl ?_
          refine rq_st 135 rfl rfl ?_
          have q := ih (kk + 1)
          first
            | (rw [ldS_y h188] at q; exact q _ _ _ (by omega) hq3 hm3 (hs2.set (mIn_k (by decide))))
            | (rw [ldS_n h188] at q; exact q _ _ _ (by omega) hq hm2 hs2)
    have J130 : ∀ (h6 : Nat → Nat → Nat → Nat) (g6 : Nat → Int32) (G2 : ma_G) (o3 o4 o5 : Option Value), h6 = hrF hr cc (wr ss) (sy ss) (w ss) → mHr (va_up A 6 g6) h6 → mdl b (va_up A 6 g6) (nI 0) cn lt gd G2 → sm (mIn b) G G2 → Rq (d + 1) M_X7_load 130 [some (.ref b), some (.int (nI cc)), some (.int (nI ss)), o3, o4, o5] [] G2 (Qr (loQ b A n w my wr kn hr sy ls cn lt gd G (nI cc) (nI ss))) := by
      intro h6 g6 G2 o3 o4 o5 hhf hmh hm2 hs2
      refine rq_ic 131 (nI 0) rfl (by decide) rfl ?_
      refine rq_st 132 rfl rfl ?_
      refine rq_ic 133 (nI 0) rfl (by decide) rfl ?_
      refine rq_st 135 rfl rfl ?_
      subst hhf
      exact loop g6 hr hmh (rdN (w ss) (my ss)) 0 (A 5) G2 _ (by omega) hk (by rw [show va_up (va_up A 6 g6) 5 (A 5) = va_up A 6 g6 from va_up_id (va_up A 6 g6) 5]; exact hm2) hs2
    have hear : wr ss ≠ cc → 0 < w ss → ∀ (m dd : Nat) (g6 : Nat → Int32) (G2 : ma_G) (o4 o5 : Option Value), dd + m = 4 → dd < 4 → mHr (va_up A 6 g6) (hrH hr cc (wr ss) (sy ss) dd) → mdl b (va_up A 6 g6) (nI 0) cn lt gd G2 → sm (mIn b) G G2 → Rq (d + 1) M_X7_load 60 [some (.ref b), some (.int (nI cc)), some (.int (nI ss)), some (.int (nI dd)), o4, o5] [] G2 (Qr (loQ b A n w my wr kn hr sy ls cn lt gd G (nI cc) (nI ss))) := by
      intro hne hw0 m
      induction m with
      | zero => intro dd g6 G2 o4 o5 h1 h2; omega
      | succ m ih =>
        intro dd g6 G2 o4 o5 hdd hd4 hmh0 hm2 hs2
        have hg6 := (hmh0 cc (wr ss) dd hc hwr hd4).1
        have hg24 := (hh cc (wr ss) dd hc hwr hd4).2
        have hsy := (hsk.2.2.1 dd hd4).2
        have J123 : ∀ z : Nat, z = hrH hr cc (wr ss) (sy ss) (dd + 1) cc (wr ss) dd → Rq (d + 1) M_X7_load 123 [some (.ref b), some (.int (nI cc)), some (.int (nI ss)), some (.int (nI dd)), some (.int (nI (16 * cc + 4 * wr ss + dd))), o5] [.int (nI z), .int (nI (16 * cc + 4 * wr ss + dd)), .ref (b + 7)] G2 (Qr (loQ b A n w my wr kn hr sy ls cn lt gd G (nI cc) (nI ss))) := by
          intro z hz
          have hmh := mHr_up hc hwr hd4 hsy hmh0 hz
          refine rq_iasN 124 rfl (hm2.arrE 6 (n := 64) (f := g6) (by decide) rfl rfl rfl) (by omega) (by decide) rfl ?_
          have hm3 := hm2.aput 6 (x := b + 7) (n := 64) (g := upd g6 (16 * cc + 4 * wr ss + dd) (nI z)) (by decide) rfl rfl
          rw [bx_uu] at hm3
          refine rq_incN 127 _ rfl rfl (nI_1 _) rfl rfl ?_
          refine rq_st 36 rfl rfl ?_
          by_cases h4 : dd + 1 = 4
          · refine rq_st 37 rfl rfl ?_
            refine rq_ic 38 (nI 4) rfl (by decide) rfl ?_
            refine rq_cmpt rfl ((ma_cmpN (by omega) (by omega)).mpr (by show 4 ≤ dd + 1; omega)) ?_
            exact J130 (hrH hr cc (wr ss) (sy ss) (dd + 1)) _ _ _ _ _ (by unfold hrF; rw [if_pos ⟨hw0, hne⟩, h4]) hmh hm3 (hs2.set (mIn_k (by decide)))
          · refine rq_st 37 rfl rfl ?_
            refine rq_ic 38 (nI 4) rfl (by decide) rfl ?_
            refine rq_cmpf 41 rfl rfl (by rw [← Bool.not_eq_true, ma_cmpN (by omega) (by omega)]; show ¬ 4 ≤ dd + 1; omega) ?_
            refine rq_st 42 rfl rfl ?_
            refine rq_getf 45 rfl hm3.1 rfl rfl ?_
            refine rq_st 46 rfl rfl ?_
            refine rq_ialN 47 rfl (hm3.arrE 7 (n := 3) (f := (A 7)) (by decide) rfl rfl rfl) (by omega) (by decide) rfl ?_
            rw [hst1.1]
            refine rq_iff 50 rfl rfl (by rw [← Bool.not_eq_true, ma_ifN (by omega)]; show ¬ w ss ≤ 0; omega) ?_
            refine rq_st 51 rfl rfl ?_
            refine rq_getf 54 rfl hm3.1 rfl rfl ?_
            refine rq_st 55 rfl rfl ?_
            refine rq_ialN 56 rfl (hm3.arrE 8 (n := 3) (f := (A 8)) (by decide) rfl rfl rfl) (by omega) (by decide) rfl ?_
            rw [hk8]
            refine rq_st 57 rfl rfl ?_
            refine rq_cmpf 60 rfl rfl (by rw [← Bool.not_eq_true, ma_cmpN (by omega) (by omega)]; exact hne) ?_
            exact ih (dd + 1) _ _ _ _ (by omega) (by omega) hmh hm3 (hs2.set (mIn_k (by decide)))
        refine rq_bp 62 (nI 16) rfl (by decide) rfl ?_
        refine rq_st 63 rfl rfl ?_
        refine rq_mulN 64 rfl rfl ?_
        refine rq_ic 65 (nI 4) rfl (by decide) rfl ?_
        refine rq_st 66 rfl rfl ?_
        refine rq_getf 69 rfl hm2.1 rfl rfl ?_
        refine rq_st 70 rfl rfl ?_
        refine rq_ialN 71 rfl (hm2.arrE 8 (n := 3) (f := (A 8)) (by decide) rfl rfl rfl) (by omega) (by decide) rfl ?_
        rw [hk8]
        refine rq_mulN 72 rfl rfl ?_
        refine rq_addN 73 rfl rfl ?_
        refine rq_st 74 rfl rfl ?_
        refine rq_addN 75 rfl rfl ?_
        refine rq_st 77 rfl rfl ?_
        refine rq_st 78 rfl rfl ?_
        refine rq_getf 81 rfl hm2.1 rfl rfl ?_
        refine rq_st 83 rfl rfl ?_
        refine rq_st 84 rfl rfl ?_
        refine rq_getf 87 rfl hm2.1 rfl rfl ?_
        refine rq_ic 88 (nI 4) rfl (by decide) rfl ?_
        refine rq_st 89 rfl rfl ?_
        refine rq_mulN 90 rfl rfl ?_
        refine rq_st 91 rfl rfl ?_
        refine rq_addN 92 rfl rfl ?_
        refine rq_ialN 93 rfl (hm2.arrE 9 (n := 12) (f := (A 9)) (by decide) rfl rfl rfl) (by omega) (by decide) rfl ?_
        rw [(hsk.2.2.1 dd (by omega)).1]
        refine rq_st 94 rfl rfl ?_
        refine rq_getf 97 rfl hm2.1 rfl rfl ?_
        refine rq_st 99 rfl rfl ?_
        refine rq_ialN 100 rfl (hm2.arrE 6 (n := 64) (f := g6) (by decide) rfl rfl rfl) (by omega) (by decide) rfl ?_
        rw [show g6 (16 * cc + 4 * wr ss + dd) = nI (hr cc (wr ss) dd) from hg6.trans (by rw [hrH_d.1])]
        refine rq_cmpN 103 rfl rfl (by omega) (by omega) (fun h100 => ?_) (fun h100 => ?_)
        · dsimp only [cN] at h100
          refine rq_st 117 rfl rfl ?_
          refine rq_getf 120 rfl hm2.1 rfl rfl ?_
          refine rq_st 122 rfl rfl ?_
          refine rq_ialN 123 rfl (hm2.arrE 6 (n := 64) (f := g6) (by decide) rfl rfl rfl) (by omega) (by decide) rfl ?_
          rw [show g6 (16 * cc + 4 * wr ss + dd) = nI (hr cc (wr ss) dd) from hg6.trans (by rw [hrH_d.1])]
          exact J123 _ (by rw [hrH_d.2]; first | rw [if_pos (by omega)] | rw [if_neg (by omega)])
        · dsimp only [cN] at h100
          refine rq_st 104 rfl rfl ?_
          refine rq_getf 107 rfl hm2.1 rfl rfl ?_
          refine rq_ic 108 (nI 4) rfl (by decide) rfl ?_
          refine rq_st 109 rfl rfl ?_
          refine rq_mulN 110 rfl rfl ?_
          refine rq_st 111 rfl rfl ?_
          refine rq_addN 112 rfl rfl ?_
          refine rq_ialN 113 rfl (hm2.arrE 9 (n := 12) (f := (A 9)) (by decide) rfl rfl rfl) (by omega) (by decide) rfl ?_
          rw [(hsk.2.2.1 dd (by omega)).1]
          refine rq_st 123 rfl rfl ?_
          exact J123 _ (by rw [hrH_d.2]; first | rw [if_pos (by omega)] | rw [if_neg (by omega)])
    intro G2 hm2 hs2
    refine rq_st 37 rfl rfl ?_
    refine rq_ic 38 (nI 4) rfl (by decide) rfl ?_
    refine rq_cmpf 41 rfl rfl (by decide) ?_
    refine rq_st 42 rfl rfl ?_
    refine rq_getf 45 rfl hm2.1 rfl rfl ?_
    refine rq_st 46 rfl rfl ?_
    refine rq_ialN 47 rfl (hm2.arrE 7 (n := 3) (f := (A 7)) (by decide) rfl rfl rfl) (by omega) (by decide) rfl ?_
    rw [hst1.1]
    refine rq_ifN 50 rfl rfl (by omega) (fun h47 => ?_) (fun h47 => ?_)
    · dsimp only [cN] at h47
      exact J130 hr (A 6) G2 _ _ _ (by unfold hrF; rw [if_neg (by omega)]) (by rw [va_up_id]; exact hh) (by rw [va_up_id]; exact hm2) hs2
    · dsimp only [cN] at h47
      refine rq_st 51 rfl rfl ?_
      refine rq_getf 54 rfl hm2.1 rfl rfl ?_
      refine rq_st 55 rfl rfl ?_
      refine rq_ialN 56 rfl (hm2.arrE 8 (n := 3) (f := (A 8)) (by decide) rfl rfl rfl) (by omega) (by decide) rfl ?_
      rw [hk8]
      refine rq_st 57 rfl rfl ?_
      refine rq_cmpN 60 rfl rfl (by omega) (by omega) (fun h57 => ?_) (fun h57 => ?_)
      · dsimp only [cN] at h57
        exact J130 hr (A 6) G2 _ _ _ (by unfold hrF; rw [if_neg (fun q => q.2 h57)]) (by rw [va_up_id]; exact hh) (by rw [va_up_id]; exact hm2) hs2
      · dsimp only [cN] at h57
        exact hear h57 (by omega) 4 0 (A 6) G2 _ _ (by omega) (by omega) (by rw [hrH_0, va_up_id]; exact hh) (by rw [va_up_id]; exact hm2) hs2
  refine rq_st 1 rfl rfl ?_
  refine rq_st 2 rfl rfl ?_
  refine rq_ic 3 (nI 4) rfl (by decide) rfl ?_
  refine rq_call [_, _] _ 6 rfl rfl rfl rfl rfl (Nat.le_of_ble_eq_true rfl) (cats rfl) (rcv_n rfl) (p_X7_isIn d _ 4 (by decide) _) rfl ?_
  refine rq_ifB 9 rfl rfl (fun h6 => ?_) (fun h6 => ?_)
  · skip
    exact Jb (fun q => h6 q.1)
  · skip
    refine rq_st 10 rfl rfl ?_
    refine rq_ic 11 (nI 3) rfl (by decide) rfl ?_
    refine rq_call [_, _] _ 14 rfl rfl rfl rfl rfl (Nat.le_of_ble_eq_true rfl) (cats rfl) (rcv_n rfl) (p_X7_isIn d _ 3 (by decide) _) rfl ?_
    refine rq_ifB 17 rfl rfl (fun h14 => ?_) (fun h14 => ?_)
    · skip
      exact Jb (fun q => h14 q.2)
    · skip
      refine rq_ic 18 (nI 0) rfl (by decide) rfl ?_
      refine rq_st 22 rfl rfl ?_
      refine rq_puti 25 rfl hm.1 (Nat.le_of_ble_eq_true rfl) rfl rfl ?_
      obtain ⟨cc, hc, rfl⟩ := h6
      obtain ⟨ss, hs, rfl⟩ := h14
      have hm1 := hm.thr (nI 0)
      refine rq_st 26 rfl rfl ?_
      refine rq_getf 29 rfl hm1.1 rfl rfl ?_
      refine rq_ift rfl (by decide) ?_
      refine rq_ic 35 (nI 0) rfl (by decide) rfl ?_
      refine rq_st 36 rfl rfl ?_
      exact start cc hc ss hs _ hm1 (sm.rf.set (mIn_0 b))
