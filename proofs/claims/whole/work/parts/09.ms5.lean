/-! MS5: one step of the abstract machine is one of the machine -/
section MS5
variable {p : Program} {l : Launch} {e : Env} {R : Room} {s : State} {m : MethodId} {args : Array Value} {below : List Frame} {meth : Method} {c : Code} {H : Heap} {locs : List Loc} {cells slots : Nat} {Q : State → Prop}
variable {D : va_G} {tc : Nat → ClassId} {A : Nat → Prop} {M : ma_M} {as0 as : List Nat} {G0 G : ma_G} {pc aux : Nat} {ls : Array Slot} {L : ma_L} {S : List Value}
theorem ms_map_some {α β : Type} {o : Option α} {f : α → β} {b : β} (h : o.map f = some b) : ∃ a, o = some a ∧ f a = b := by
  cases o with
  | none => cases h
  | some a => exact ⟨a, rfl, Option.some.inj h⟩
theorem ms_cat_sum (as : List Nat) (S : List Value) : ((S.map (ms_rv as)).map fun v => v.category).sum = (S.map fun v => v.category).sum := by
  rw [List.map_map]
  congr 1
  exact List.map_congr_left (fun v _ => ms_rv_cat as v)
theorem ms_tgt {pc : Nat} {o : Int} (h : 0 ≤ (pc : Int) + o) : (pc : Int) + o = ((ma_tgt pc o : Nat) : Int) := by
  unfold ma_tgt
  omega
set_option maxHeartbeats 4000000 in
set_option maxRecDepth 100000 in
theorem ms_step (hC : ms_C p e s m meth c D tc A M as0 G0) {x : Instr} (hat : ma_at M pc x aux) {pc' : Nat} {L' : ma_L} {S' : List Value} {G' : ma_G} (h : ma_step x aux pc L S G = some (pc', L', S', G'))
    (hP : ms_P D tc A s as0 G0 as G H locs) (hL : ms_L as M.nL ls L) (hwL : ms_wL G.length L) (hwS : ms_wS G.length S) (hR1 : 1 ≤ R.frames) (hR2 : 30 ≤ R.locals) (hcs : cells ≤ R.cells) (hss : slots ≤ R.slots)
    (kk : ∀ H' locs' ls', ms_P D tc A s as0 G0 as G' H' locs' → ms_L as M.nL ls' L' → ms_wL G'.length L' → ms_wS G'.length S' → W p l e R s m args below meth c H' locs' cells slots Q (F0 m pc' ls' (S'.map (ms_rv as)))) :
    W p l e R s m args below meth c H locs cells slots Q (F0 m pc ls (S.map (ms_rv as))) := by
  obtain ⟨hx, hb, hml, hex, hr, hlk, hown, hnm, hV, hA, hZ, hX, htr⟩ := id hC
  have hW := hV.2.1
  have hd := hat.1
  have hck := hat.2
  cases x with
  | iconst n => cases h; exact lv_iconst hx hb hd rfl (kk _ _ _ hP hL hwL (hwS.cons (ms_wi _ _)))
  | bipush n => cases h; exact lv_bipush hx hb hd rfl (kk _ _ _ hP hL hwL (hwS.cons (ms_wi _ _)))
  | sipush n => cases h; exact lv_sipush hx hb hd rfl (kk _ _ _ hP hL hwL (hwS.cons (ms_wi _ _)))
  | lconst n => cases h; exact lv_lconst hx hb hd rfl (kk _ _ _ hP hL hwL (hwS.cons (ms_wl _ _)))
  | ldc n => cases h; exact lv_ldc hx hb hown (hW _ _ (ma_in_of hck) rfl) hd (kk _ _ _ hP hL hwL (hwS.cons (ms_wi _ _)))
  | ldc2_w n => cases h; exact lv_ldc2 hx hb hown (hW _ _ (ma_in_of hck) rfl) hd (kk _ _ _ hP hL hwL (hwS.cons (ms_wl _ _)))
  | iload i => obtain ⟨v, hv, h⟩ := ms_map_some h; cases h; exact lv_iload hx hb hd (hL.get (ma_ldi_eq hv)) (kk _ _ _ hP hL hwL (hwS.cons (ms_wi _ _)))
  | iload_n i => obtain ⟨v, hv, h⟩ := ms_map_some h; cases h; exact lv_iload_n hx hb hd rfl (hL.get (ma_ldi_eq hv)) (kk _ _ _ hP hL hwL (hwS.cons (ms_wi _ _)))
  | lload i => obtain ⟨v, hv, h⟩ := ms_map_some h; cases h; exact lv_lload hx hb hd (hL.get (ma_ldl_eq hv)) (kk _ _ _ hP hL hwL (hwS.cons (ms_wl _ _)))
  | lload_n i => obtain ⟨v, hv, h⟩ := ms_map_some h; cases h; exact lv_lload_n hx hb hd rfl (hL.get (ma_ldl_eq hv)) (kk _ _ _ hP hL hwL (hwS.cons (ms_wl _ _)))
  | aload i => obtain ⟨v, hv, h⟩ := ms_map_some h; cases h; exact lv_aload hx hb hd (hL.get (ma_lda_eq hv)) (kk _ _ _ hP hL hwL (hwS.cons (hwL _ _ (ma_lda_eq hv))))
  | aload_n i => obtain ⟨v, hv, h⟩ := ms_map_some h; cases h; exact lv_aload_n hx hb hd rfl (hL.get (ma_lda_eq hv)) (kk _ _ _ hP hL hwL (hwS.cons (hwL _ _ (ma_lda_eq hv))))
  | istore i =>
    simp only [ma_step] at h
    split at h
    · obtain ⟨v, hv, h⟩ := ms_map_some h
      cases h
      obtain ⟨hi, hp1⟩ := ms_put1 hL hv
      exact lv_istore hx hb hd hL.2 hi rfl (fun ls' h' => kk _ _ _ hP (hp1 ls' h') (ms_wL1 hv hwL (ms_wi _ _)) hwS.tl)
    · cases h
  | istore_n i =>
    simp only [ma_step] at h
    split at h
    · obtain ⟨v, hv, h⟩ := ms_map_some h
      cases h
      obtain ⟨hi, hp1⟩ := ms_put1 hL hv
      exact lv_istore_n hx hb hd rfl hL.2 hi rfl (fun ls' h' => kk _ _ _ hP (hp1 ls' h') (ms_wL1 hv hwL (ms_wi _ _)) hwS.tl)
    · cases h
  | astore i =>
    simp only [ma_step] at h
    split at h
    · obtain ⟨v, hv, h⟩ := ms_map_some h
      cases h
      obtain ⟨hi, hp1⟩ := ms_put1 hL hv
      exact lv_astore hx hb hd hL.2 hi rfl (fun ls' h' => kk _ _ _ hP (hp1 ls' h') (ms_wL1 hv hwL hwS.hd) hwS.tl)
    · cases h
  | astore_n i =>
    simp only [ma_step] at h
    split at h
    · obtain ⟨v, hv, h⟩ := ms_map_some h
      cases h
      obtain ⟨hi, hp1⟩ := ms_put1 hL hv
      exact lv_astore_n hx hb hd rfl hL.2 hi rfl (fun ls' h' => kk _ _ _ hP (hp1 ls' h') (ms_wL1 hv hwL hwS.hd) hwS.tl)
    · cases h
  | lstore i =>
    simp only [ma_step] at h
    split at h
    · obtain ⟨v, hv, h⟩ := ms_map_some h
      cases h
      obtain ⟨hi, hp1⟩ := ms_put2 hL hv
      exact lv_lstore hx hb hd hL.2 hi rfl (fun ls' h' => kk _ _ _ hP (hp1 ls' h') (ms_wL2 hv hwL (ms_wl _ _)) hwS.tl)
    · cases h
  | lstore_n i =>
    simp only [ma_step] at h
    split at h
    · obtain ⟨v, hv, h⟩ := ms_map_some h
      cases h
      obtain ⟨hi, hp1⟩ := ms_put2 hL hv
      exact lv_lstore_n hx hb hd rfl hL.2 hi rfl (fun ls' h' => kk _ _ _ hP (hp1 ls' h') (ms_wL2 hv hwL (ms_wl _ _)) hwS.tl)
    · cases h
  | iinc i n =>
    simp only [ma_step] at h
    split at h
    · rename_i v0 hv0
      obtain ⟨v, hv, h⟩ := ms_map_some h
      cases h
      obtain ⟨hi, hp1⟩ := ms_put1 hL hv
      obtain ⟨k, hk⟩ := List.getElem?_of_mem (ms_lv_mem (as := as) (L := L) (q := (i, .int v0)).mpr ⟨_, ma_ldi_eq hv0, rfl⟩)
      exact lv_iinc hx hb hd hL.2 hk rfl hi rfl (fun ls' h' => kk _ _ _ hP (hp1 ls' h') (ms_wL1 hv hwL (ms_wi _ _)) hwS)
    · cases h
  | iadd =>
    simp only [ma_step] at h
    split at h
    · cases h; exact lv_iadd hx hb hd (kk _ _ _ hP hL hwL (hwS.tl.tl.cons (ms_wi _ _)))
    · cases h
  | isub =>
    simp only [ma_step] at h
    split at h
    · cases h; exact lv_isub hx hb hd (kk _ _ _ hP hL hwL (hwS.tl.tl.cons (ms_wi _ _)))
    · cases h
  | imul =>
    simp only [ma_step] at h
    split at h
    · cases h; exact lv_imul hx hb hd (kk _ _ _ hP hL hwL (hwS.tl.tl.cons (ms_wi _ _)))
    · cases h
  | idiv =>
    simp only [ma_step] at h
    split at h
    · split at h
      · cases h
      · rename_i hne
        cases h; exact lv_idiv hx hb hd hne (kk _ _ _ hP hL hwL (hwS.tl.tl.cons (ms_wi _ _)))
    · cases h
  | irem =>
    simp only [ma_step] at h
    split at h
    · split at h
      · cases h
      · rename_i hne
        cases h; exact lv_irem hx hb hd hne (kk _ _ _ hP hL hwL (hwS.tl.tl.cons (ms_wi _ _)))
    · cases h
  | iand =>
    simp only [ma_step] at h
    split at h
    · cases h; exact lv_iand hx hb hd (kk _ _ _ hP hL hwL (hwS.tl.tl.cons (ms_wi _ _)))
    · cases h
  | ladd =>
    simp only [ma_step] at h
    split at h
    · cases h; exact lv_ladd hx hb hd (kk _ _ _ hP hL hwL (hwS.tl.tl.cons (ms_wl _ _)))
    · cases h
  | lmul =>
    simp only [ma_step] at h
    split at h
    · cases h; exact lv_lmul hx hb hd (kk _ _ _ hP hL hwL (hwS.tl.tl.cons (ms_wl _ _)))
    · cases h
  | lcmp =>
    simp only [ma_step] at h
    split at h
    · cases h; exact W.lcmp hx hb hd (kk _ _ _ hP hL hwL (hwS.tl.tl.cons (ms_wi _ _)))
    · cases h
  | i2l =>
    simp only [ma_step] at h
    split at h
    · cases h; exact lv_i2l hx hb hd rfl (kk _ _ _ hP hL hwL (hwS.tl.cons (ms_wl _ _)))
    · cases h
  | dup =>
    simp only [ma_step] at h
    split at h
    · cases h; exact lv_dup hx hb hd rfl (kk _ _ _ hP hL hwL (hwS.cons (ms_wi _ _)))
    · cases h; exact lv_dup hx hb hd rfl (kk _ _ _ hP hL hwL (hwS.cons hwS.hd))
    · cases h
  | dup2 =>
    simp only [ma_step] at h
    split at h
    · cases h; exact lv_dup2_11 hx hb hd rfl rfl (kk _ _ _ hP hL hwL ((hwS.cons hwS.tl.hd).cons (ms_wi _ _)))
    · cases h
  | goto o => cases h; exact lv_goto hx hb hd (of_decide_eq_true hck) (kk _ _ _ hP hL hwL hwS)
  | ifCond cd o =>
    have ht := of_decide_eq_true hck
    simp only [ma_step] at h
    split at h
    · cases h
      cases cd
      · exact lv_if_eq hx hb hd ht (fun q => by have := kk _ _ _ hP hL hwL hwS.tl; simpa [ma_if, q] using this) (fun q => by have := kk _ _ _ hP hL hwL hwS.tl; simpa [ma_if, q] using this)
      · exact lv_if_ne hx hb hd ht (fun q => by have := kk _ _ _ hP hL hwL hwS.tl; simpa [ma_if, q] using this) (fun q => by have := kk _ _ _ hP hL hwL hwS.tl; simpa [ma_if, q] using this)
      · exact lv_if_lt hx hb hd ht (fun q => by have := kk _ _ _ hP hL hwL hwS.tl; simpa [ma_if, q] using this) (fun q => by have := kk _ _ _ hP hL hwL hwS.tl; simpa [ma_if, q] using this)
      · exact lv_if_ge hx hb hd ht (fun q => by have := kk _ _ _ hP hL hwL hwS.tl; simpa [ma_if, q] using this) (fun q => by have := kk _ _ _ hP hL hwL hwS.tl; simpa [ma_if, q] using this)
      · exact lv_if_gt hx hb hd ht (fun q => by have := kk _ _ _ hP hL hwL hwS.tl; simpa [ma_if, q] using this) (fun q => by have := kk _ _ _ hP hL hwL hwS.tl; simpa [ma_if, q] using this)
      · exact lv_if_le hx hb hd ht (fun q => by have := kk _ _ _ hP hL hwL hwS.tl; simpa [ma_if, q] using this) (fun q => by have := kk _ _ _ hP hL hwL hwS.tl; simpa [ma_if, q] using this)
    · cases h
  | if_icmp cd o =>
    have ht := of_decide_eq_true hck
    simp only [ma_step] at h
    split at h
    · cases h
      cases cd
      · exact lv_icmp_eq hx hb hd ht (fun q => by have := kk _ _ _ hP hL hwL hwS.tl.tl; simpa [ma_cmp, q] using this) (fun q => by have := kk _ _ _ hP hL hwL hwS.tl.tl; simpa [ma_cmp, q] using this)
      · exact lv_icmp_ne hx hb hd ht (fun q => by have := kk _ _ _ hP hL hwL hwS.tl.tl; simpa [ma_cmp, q] using this) (fun q => by have := kk _ _ _ hP hL hwL hwS.tl.tl; simpa [ma_cmp, q] using this)
      · exact lv_icmp_lt hx hb hd ht (fun q => by have := kk _ _ _ hP hL hwL hwS.tl.tl; simpa [ma_cmp, q] using this) (fun q => by have := kk _ _ _ hP hL hwL hwS.tl.tl; simpa [ma_cmp, q] using this)
      · exact lv_icmp_ge hx hb hd ht (fun q => by have := kk _ _ _ hP hL hwL hwS.tl.tl; simpa [ma_cmp, q] using this) (fun q => by have := kk _ _ _ hP hL hwL hwS.tl.tl; simpa [ma_cmp, q] using this)
      · exact lv_icmp_gt hx hb hd ht (fun q => by have := kk _ _ _ hP hL hwL hwS.tl.tl; simpa [ma_cmp, q] using this) (fun q => by have := kk _ _ _ hP hL hwL hwS.tl.tl; simpa [ma_cmp, q] using this)
      · exact lv_icmp_le hx hb hd ht (fun q => by have := kk _ _ _ hP hL hwL hwS.tl.tl; simpa [ma_cmp, q] using this) (fun q => by have := kk _ _ _ hP hL hwL hwS.tl.tl; simpa [ma_cmp, q] using this)
    · cases h
  | tableswitch d lo hi offs =>
    simp only [ma_chk, Bool.and_eq_true, decide_eq_true_eq, List.all_eq_true] at hck
    simp only [ma_step] at h
    split at h
    · split at h
      · rename_i hout
        cases h
        exact lv_tableOut hx hb hd hout (ms_tgt hck.1) (kk _ _ _ hP hL hwL hwS.tl)
      · rename_i hin
        split at h
        · rename_i o ho
          cases h
          have hmem : o ∈ offs.toList := by
            have := Array.mem_of_getElem? ho
            simpa using this
          exact lv_tableIn hx hb hd (fun q => hin (Or.inl q)) (fun q => hin (Or.inr q)) ho (ms_tgt (hck.2 o hmem)) (kk _ _ _ hP hL hwL hwS.tl)
        · cases h
    · cases h
  | getfield ix =>
    simp only [ma_step] at h
    split at h
    · split at h
      · rename_i fs ho
        obtain ⟨v, hv, h⟩ := ms_map_some h
        cases h
        have hwv : ms_wv G.length v := (hP.2.2.2.1 _ _ (ma_obj_eq ho) : ∀ v ∈ fs, _) v (List.mem_of_getElem? hv)
        exact ms_getf hC hat hP ho hv (kk _ _ _ hP hL hwL (hwS.tl.cons hwv))
      · cases h
    · cases h
  | putfield ix =>
    simp only [ma_step] at h
    split at h
    · split at h
      · rename_i fs ho
        split at h
        · rename_i hc1
          cases h
          obtain ⟨hl1, hi1⟩ := hc1
          have hty : ma_fty (aux / 100) (aux % 100) = .int := by
            revert hi1; generalize ma_fty (aux / 100) (aux % 100) = t; intro hi1
            cases t <;> first | rfl | cases hi1
          exact ms_putf (v := .int _) hC hat hP ho hl1 (by rw [hty]; rfl) (by rw [hty]; rfl) (ms_wi _ _) (fun H' locs' hP' => kk _ _ _ hP' hL (by simpa using hwL) (by simpa using hwS.tl.tl))
        · cases h
      · cases h
    · split at h
      · rename_i fs ho
        split at h
        · rename_i hc1
          cases h
          obtain ⟨hl1, hi1⟩ := hc1
          have hty : (∃ t, ma_fty (aux / 100) (aux % 100) = .array t) ∨ ∃ C, ma_fty (aux / 100) (aux % 100) = .object C := by
            revert hi1; generalize ma_fty (aux / 100) (aux % 100) = t; intro hi1
            cases t <;> first | exact Or.inl ⟨_, rfl⟩ | exact Or.inr ⟨_, rfl⟩ | cases hi1
          exact ms_putf (v := .ref _) hC hat hP ho hl1 (by rcases hty with ⟨t, hty⟩ | ⟨t, hty⟩ <;> rw [hty] <;> rfl) (by rcases hty with ⟨t, hty⟩ | ⟨t, hty⟩ <;> rw [hty] <;> rfl) hwS.hd (fun H' locs' hP' => kk _ _ _ hP' hL (by simpa using hwL) (by simpa using hwS.tl.tl))
        · cases h
      · cases h
    · cases h
  | iaload =>
    simp only [ma_step] at h
    split at h
    · split at h
      · rename_i q ho
        obtain ⟨v, hv, h⟩ := ms_map_some h
        cases h
        exact ms_sald hC hat hP ho hv (kk _ _ _ hP hL hwL (hwS.tl.tl.cons (ms_wi _ _)))
      · split at h
        · rename_i q ho
          obtain ⟨v, hv, h⟩ := ms_map_some h
          cases h
          exact ms_iald hC hat hP ho hv (kk _ _ _ hP hL hwL (hwS.tl.tl.cons (ms_wi _ _)))
        · cases h
    · cases h
  | iastore =>
    simp only [ma_step] at h
    split at h
    · split at h
      · rename_i q ho
        obtain ⟨v, hv, h⟩ := ms_map_some h
        cases h
        exact ms_iast hC hat hP ho hv (fun H' locs' hP' => kk _ _ _ hP' hL (by simpa using hwL) (by simpa using hwS.tl.tl.tl))
      · cases h
    · cases h
  | laload =>
    simp only [ma_step] at h
    split at h
    · split at h
      · rename_i q ho
        obtain ⟨v, hv, h⟩ := ms_map_some h
        cases h
        exact ms_lald hC hat hP ho hv (kk _ _ _ hP hL hwL (hwS.tl.tl.cons (ms_wl _ _)))
      · cases h
    · cases h
  | lastore =>
    simp only [ma_step] at h
    split at h
    · split at h
      · rename_i q ho
        obtain ⟨v, hv, h⟩ := ms_map_some h
        cases h
        exact ms_last hC hat hP ho hv (fun H' locs' hP' => kk _ _ _ hP' hL (by simpa using hwL) (by simpa using hwS.tl.tl.tl))
      · cases h
    · cases h
  | aaload =>
    simp only [ma_step] at h
    split at h
    · split at h
      · rename_i q ho
        split at h
        · rename_i j hj
          obtain ⟨v, hv, h⟩ := ms_map_some h
          cases h
          have hwv : ms_wv G.length (.ref v) := ms_wr ((hP.2.2.2.1 _ _ (ma_refs_eq ho).1 : ∀ j k, q.2.2 j = some k → k < G.length) _ _ hv)
          exact ms_aald hC hat hP ho hj hv (kk _ _ _ hP hL hwL (hwS.tl.tl.cons hwv))
        · cases h
      · cases h
    · cases h
  | aastore =>
    simp only [ma_step] at h
    split at h
    · split at h
      · rename_i q ho
        split at h
        · rename_i j ci hj hci
          split at h
          · rename_i fs hfs
            cases h
            exact ms_aast hC hat hP ho hj hci hfs (fun H' locs' hP' => kk _ _ _ hP' hL (by simpa using hwL) (by simpa using hwS.tl.tl.tl))
          · cases h
        · cases h
      · cases h
    · cases h
  | arraylength =>
    simp only [ma_step] at h
    split at h
    · obtain ⟨q, hq, h⟩ := ms_map_some h
      cases h
      exact ms_slen hC hat hP hq (kk _ _ _ hP hL hwL (hwS.tl.cons (ms_wi _ _)))
    · cases h
  | invokespecial ix =>
    simp only [ma_step] at h
    split at h
    · rename_i h9
      split at h
      · split at h
        · rename_i a S0 hsum
          cases h
          rw [ma_chk, if_pos h9] at hck
          refine W.objInit hx hb hown (hW _ _ (ma_in_of hck) rfl) (hW _ _ (by decide +kernel) rfl) (hW _ _ (by decide +kernel) rfl) rfl (by rw [hml]; exact hL.2.1) rfl hd hR1 (by show 2 * 0 + _ + 12 ≤ _; rw [ms_cat_sum]; omega) ?_
          exact kk _ _ _ hP hL hwL hwS.tl
        · cases h
      · cases h
    · cases h
  | invokestatic ix =>
    simp only [ma_step] at h
    split at h
    · rename_i h9
      split at h
      · split at h
        · rename_i y x S0 hsum
          cases h
          rw [ma_chk, if_pos h9] at hck
          refine va_mmin hx hb (by rw [hml]; exact hL.2.1.symm) hown (hW _ _ (ma_in_of hck) rfl) (hW _ _ (by decide +kernel) rfl) (hW _ _ (by decide +kernel) rfl) (hW _ _ (by decide +kernel) rfl) hR1 (by rw [ms_cat_sum]; omega) hcs hss hd ?_
          exact kk _ _ _ hP hL hwL (hwS.tl.tl.cons (ms_wi _ _))
        · cases h
      · cases h
    · rename_i h8
      split at h
      · rename_i h9
        split at h
        · split at h
          · rename_i y x S0 hsum
            cases h
            rw [ma_chk, if_neg h8, if_pos h9] at hck
            refine va_mmax hx hb (by rw [hml]; exact hL.2.1.symm) hown (hW _ _ (ma_in_of hck) rfl) (hW _ _ (by decide +kernel) rfl) (hW _ _ (by decide +kernel) rfl) (hW _ _ (by decide +kernel) rfl) hR1 (by rw [ms_cat_sum]; omega) hcs hss hd ?_
            exact kk _ _ _ hP hL hwL (hwS.tl.tl.cons (ms_wi _ _))
          · cases h
        · cases h
      · cases h
  | _ => cases h
end MS5
