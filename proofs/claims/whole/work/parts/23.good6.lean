def ma_gL (q : Nat × ma_I) : Bool := decide (decode code q.1 = .ok (q.2.1, ma_len q.2.1 q.2.2)) && ma_chk M_L_law q.1 q.2.1 q.2.2 && ma_cchk prog M_L_law q.1 q.2.1 q.2.2
set_option maxRecDepth 100000 in
theorem gl_0 : cd_L_law_0.all ma_gL = true := by decide +kernel
set_option maxRecDepth 100000 in
theorem gl_1 : cd_L_law_1.all ma_gL = true := by decide +kernel
set_option maxRecDepth 100000 in
theorem gl_2 : cd_L_law_2.all ma_gL = true := by decide +kernel
set_option maxRecDepth 100000 in
theorem gl_3 : cd_L_law_3.all ma_gL = true := by decide +kernel
set_option maxRecDepth 100000 in
theorem gl_4 : cd_L_law_4.all ma_gL = true := by decide +kernel
set_option maxRecDepth 100000 in
theorem gl_5 : cd_L_law_5.all ma_gL = true := by decide +kernel
set_option maxRecDepth 100000 in
theorem gl_6 : cd_L_law_6.all ma_gL = true := by decide +kernel
set_option maxRecDepth 100000 in
theorem gl_7 : cd_L_law_7.all ma_gL = true := by decide +kernel
set_option maxRecDepth 100000 in
theorem gl_8 : cd_L_law_8.all ma_gL = true := by decide +kernel
set_option maxRecDepth 100000 in
theorem gl_9 : cd_L_law_9.all ma_gL = true := by decide +kernel
set_option maxRecDepth 100000 in
theorem gl_10 : cd_L_law_10.all ma_gL = true := by decide +kernel
set_option maxRecDepth 100000 in
theorem gl_11 : cd_L_law_11.all ma_gL = true := by decide +kernel
set_option maxRecDepth 100000 in
theorem gl_12 : cd_L_law_12.all ma_gL = true := by decide +kernel
set_option maxRecDepth 100000 in
theorem gl_13 : cd_L_law_13.all ma_gL = true := by decide +kernel
set_option maxRecDepth 100000 in
theorem gl_14 : cd_L_law_14.all ma_gL = true := by decide +kernel
set_option maxRecDepth 100000 in
theorem gl_15 : cd_L_law_15.all ma_gL = true := by decide +kernel
set_option maxRecDepth 100000 in
theorem gl_16 : cd_L_law_16.all ma_gL = true := by decide +kernel
set_option maxRecDepth 100000 in
theorem gl_17 : cd_L_law_17.all ma_gL = true := by decide +kernel
set_option maxRecDepth 100000 in
theorem gl_18 : cd_L_law_18.all ma_gL = true := by decide +kernel
set_option maxRecDepth 100000 in
theorem gl_19 : cd_L_law_19.all ma_gL = true := by decide +kernel
set_option maxRecDepth 100000 in
theorem gl_20 : cd_L_law_20.all ma_gL = true := by decide +kernel
set_option maxRecDepth 100000 in
theorem gl_21 : cd_L_law_21.all ma_gL = true := by decide +kernel
set_option maxRecDepth 100000 in
theorem gl_22 : cd_L_law_22.all ma_gL = true := by decide +kernel
set_option maxRecDepth 100000 in
theorem gl_23 : cd_L_law_23.all ma_gL = true := by decide +kernel
theorem gl_app {a b : List (Nat × ma_I)} (ha : a.all ma_gL = true) (hb : b.all ma_gL = true) : (a ++ b).all ma_gL = true := by rw [List.all_append, ha, hb]; rfl
theorem gl_all : cd_L_law.all ma_gL = true := gl_app gl_0 (gl_app gl_1 (gl_app gl_2 (gl_app gl_3 (gl_app gl_4 (gl_app gl_5 (gl_app gl_6 (gl_app gl_7 (gl_app gl_8 (gl_app gl_9 (gl_app gl_10 (gl_app gl_11 (gl_app gl_12 (gl_app gl_13 (gl_app gl_14 (gl_app gl_15 (gl_app gl_16 (gl_app gl_17 (gl_app gl_18 (gl_app gl_19 (gl_app gl_20 (gl_app gl_21 (gl_app gl_22 (gl_23)))))))))))))))))))))))
theorem gl_good : ma_goodI prog M_L_law := by
  refine ⟨fun pc x aux hf => ?_, rfl, fun q hq => by simp [M_L_law, ma_M.hs, ma_M.hx] at hq, rfl⟩
  have h := List.all_eq_true.mp gl_all _ (ma_find_mem hf)
  simp only [ma_gL, Bool.and_eq_true, decide_eq_true_eq] at h
  exact ⟨⟨h.1.1, h.1.2⟩, h.2⟩
