/-! the tables of 16 are right: by program -/
def ma_gI (prog : Nat → Option ma_M) (M : ma_M) : Bool := M.cd.all (fun q => decide (decode M.cc q.1 = .ok (q.2.1, ma_len q.2.1 q.2.2)) && ma_chk M q.1 q.2.1 q.2.2 && ma_cchk prog M q.1 q.2.1 q.2.2) && decide (M.hs.length = M.hx.length) && (M.hs.zip M.hx).all (ma_hc M) && decide (M.own = M.y.cls)
def ma_gM (M : ma_M) : Bool := plainName M.y.cls && decide (M.nL ≤ 21) && decide (M.na ≤ M.nL) && decide (M.y.cls ≠ "java/lang/invoke/MethodHandle") && decide (M.y.cls ≠ "java/lang/invoke/VarHandle") && ma_in (.initialized M.y.cls) && decide ((parseMethodDescriptor M.y.desc).map (fun d => d.parameters.length) = some (match M.ci with | none => M.na | some _ => M.na - 1)) && (match M.ci with
  | none => true
  | some ci => match vwCl[ci]? with
    | some q => decide (q.1 = M.y.cls)
    | none => false)
theorem ma_find_mem {l : List (Nat × ma_I)} {pc : Nat} {x : ma_I} (h : ma_find l pc = some x) : (pc, x) ∈ l := by
  induction l with
  | nil => cases h
  | cons q r ih =>
    simp only [ma_find] at h
    split at h
    · rename_i hq
      cases h
      subst hq
      exact List.mem_cons_self
    · exact List.mem_cons_of_mem _ (ih h)
theorem ma_gI_of {prog : Nat → Option ma_M} {M : ma_M} (h : ma_gI prog M = true) : ma_goodI prog M := by
  simp only [ma_gI, Bool.and_eq_true, decide_eq_true_eq, List.all_eq_true] at h
  obtain ⟨⟨⟨h1, h2⟩, h3⟩, h4⟩ := h
  refine ⟨fun pc x aux hf => ?_, h2, h3, h4⟩
  obtain ⟨⟨a, b⟩, c⟩ := h1 _ (ma_find_mem hf)
  exact ⟨⟨a, b⟩, c⟩
theorem ma_gM_of {M : ma_M} (hc : mx_cw M.y M.cc M.nL M.ret M.hs ∈ lw_tbl) (h : ma_gM M = true) : ma_goodM M := by
  simp only [ma_gM, Bool.and_eq_true, decide_eq_true_eq] at h
  obtain ⟨⟨⟨⟨⟨⟨⟨h1, h2⟩, h3⟩, h4⟩, h5⟩, h6⟩, h7⟩, h8⟩ := h
  refine ⟨h1, hc, h2, h3, ⟨h4, h5⟩, ma_in_of h6, h7, fun ci hci => ?_⟩
  rw [hci] at h8
  dsimp only at h8
  split at h8
  · rename_i q hq
    exact ⟨q, hq, of_decide_eq_true h8⟩
  · cases h8
