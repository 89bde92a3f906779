set_option maxRecDepth 100000 in
theorem gi_X5_bookAt : ma_gI prog M_X5_bookAt = true := by decide +kernel
set_option maxRecDepth 100000 in
theorem gc_X5_bookAt : mx_cw M_X5_bookAt.y M_X5_bookAt.cc M_X5_bookAt.nL M_X5_bookAt.ret M_X5_bookAt.hs ∈ lw_tbl := List.mem_of_getElem? (i := 515) rfl
set_option maxRecDepth 100000 in
theorem gm_X5_bookAt : ma_gM M_X5_bookAt = true := by decide +kernel
set_option maxRecDepth 100000 in
theorem gi_X5_has : ma_gI prog M_X5_has = true := by decide +kernel
set_option maxRecDepth 100000 in
theorem gc_X5_has : mx_cw M_X5_has.y M_X5_has.cc M_X5_has.nL M_X5_has.ret M_X5_has.hs ∈ lw_tbl := List.mem_of_getElem? (i := 519) rfl
set_option maxRecDepth 100000 in
theorem gm_X5_has : ma_gM M_X5_has = true := by decide +kernel
set_option maxRecDepth 100000 in
theorem gi_X5_numberAt : ma_gI prog M_X5_numberAt = true := by decide +kernel
set_option maxRecDepth 100000 in
theorem gc_X5_numberAt : mx_cw M_X5_numberAt.y M_X5_numberAt.cc M_X5_numberAt.nL M_X5_numberAt.ret M_X5_numberAt.hs ∈ lw_tbl := List.mem_of_getElem? (i := 523) rfl
set_option maxRecDepth 100000 in
theorem gm_X5_numberAt : ma_gM M_X5_numberAt = true := by decide +kernel
set_option maxRecDepth 100000 in
theorem gi_L_counting : ma_gI prog M_L_counting = true := by decide +kernel
set_option maxRecDepth 100000 in
theorem gc_L_counting : mx_cw M_L_counting.y M_L_counting.cc M_L_counting.nL M_L_counting.ret M_L_counting.hs ∈ lw_tbl := List.mem_of_getElem? (i := 526) rfl
set_option maxRecDepth 100000 in
theorem gm_L_counting : ma_gM M_L_counting = true := by decide +kernel
set_option maxRecDepth 100000 in
theorem gi_X6_counting : ma_gI prog M_X6_counting = true := by decide +kernel
set_option maxRecDepth 100000 in
theorem gc_X6_counting : mx_cw M_X6_counting.y M_X6_counting.cc M_X6_counting.nL M_X6_counting.ret M_X6_counting.hs ∈ lw_tbl := List.mem_of_getElem? (i := 530) rfl
set_option maxRecDepth 100000 in
theorem gm_X6_counting : ma_gM M_X6_counting = true := by decide +kernel
set_option maxRecDepth 100000 in
theorem gi_X6_requireCase : ma_gI prog M_X6_requireCase = true := by decide +kernel
set_option maxRecDepth 100000 in
theorem gc_X6_requireCase : mx_cw M_X6_requireCase.y M_X6_requireCase.cc M_X6_requireCase.nL M_X6_requireCase.ret M_X6_requireCase.hs ∈ lw_tbl := List.mem_of_getElem? (i := 533) rfl
set_option maxRecDepth 100000 in
theorem gm_X6_requireCase : ma_gM M_X6_requireCase = true := by decide +kernel
set_option maxRecDepth 100000 in
theorem gi_X6_judge : ma_gI prog M_X6_judge = true := by decide +kernel
set_option maxRecDepth 100000 in
theorem gc_X6_judge : mx_cw M_X6_judge.y M_X6_judge.cc M_X6_judge.nL M_X6_judge.ret M_X6_judge.hs ∈ lw_tbl := List.mem_of_getElem? (i := 537) rfl
set_option maxRecDepth 100000 in
theorem gm_X6_judge : ma_gM M_X6_judge = true := by decide +kernel
set_option maxRecDepth 100000 in
theorem gi_X6_readCourse : ma_gI prog M_X6_readCourse = true := by decide +kernel
set_option maxRecDepth 100000 in
theorem gc_X6_readCourse : mx_cw M_X6_readCourse.y M_X6_readCourse.cc M_X6_readCourse.nL M_X6_readCourse.ret M_X6_readCourse.hs ∈ lw_tbl := List.mem_of_getElem? (i := 541) rfl
set_option maxRecDepth 100000 in
theorem gm_X6_readCourse : ma_gM M_X6_readCourse = true := by decide +kernel
set_option maxRecDepth 100000 in
theorem gi_X2_clear : ma_gI prog M_X2_clear = true := by decide +kernel
set_option maxRecDepth 100000 in
theorem gc_X2_clear : mx_cw M_X2_clear.y M_X2_clear.cc M_X2_clear.nL M_X2_clear.ret M_X2_clear.hs ∈ lw_tbl := List.mem_of_getElem? (i := 545) rfl
set_option maxRecDepth 100000 in
theorem gm_X2_clear : ma_gM M_X2_clear = true := by decide +kernel
set_option maxRecDepth 100000 in
theorem gi_X6_isDoseOf : ma_gI prog M_X6_isDoseOf = true := by decide +kernel
set_option maxRecDepth 100000 in
theorem gc_X6_isDoseOf : mx_cw M_X6_isDoseOf.y M_X6_isDoseOf.cc M_X6_isDoseOf.nL M_X6_isDoseOf.ret M_X6_isDoseOf.hs ∈ lw_tbl := List.mem_of_getElem? (i := 549) rfl
set_option maxRecDepth 100000 in
theorem gm_X6_isDoseOf : ma_gM M_X6_isDoseOf = true := by decide +kernel
set_option maxRecDepth 100000 in
theorem gi_X6_isValid : ma_gI prog M_X6_isValid = true := by decide +kernel
set_option maxRecDepth 100000 in
theorem gc_X6_isValid : mx_cw M_X6_isValid.y M_X6_isValid.cc M_X6_isValid.nL M_X6_isValid.ret M_X6_isValid.hs ∈ lw_tbl := List.mem_of_getElem? (i := 553) rfl
set_option maxRecDepth 100000 in
theorem gm_X6_isValid : ma_gM M_X6_isValid = true := by decide +kernel
set_option maxRecDepth 100000 in
theorem gi_X6_isRecalled : ma_gI prog M_X6_isRecalled = true := by decide +kernel
set_option maxRecDepth 100000 in
theorem gc_X6_isRecalled : mx_cw M_X6_isRecalled.y M_X6_isRecalled.cc M_X6_isRecalled.nL M_X6_isRecalled.ret M_X6_isRecalled.hs ∈ lw_tbl := List.mem_of_getElem? (i := 557) rfl
set_option maxRecDepth 100000 in
theorem gm_X6_isRecalled : ma_gM M_X6_isRecalled = true := by decide +kernel
set_option maxRecDepth 100000 in
theorem gi_X0_recalls : ma_gI prog M_X0_recalls = true := by decide +kernel
set_option maxRecDepth 100000 in
theorem gc_X0_recalls : mx_cw M_X0_recalls.y M_X0_recalls.cc M_X0_recalls.nL M_X0_recalls.ret M_X0_recalls.hs ∈ lw_tbl := List.mem_of_getElem? (i := 561) rfl
set_option maxRecDepth 100000 in
theorem gm_X0_recalls : ma_gM M_X0_recalls = true := by decide +kernel
set_option maxRecDepth 100000 in
theorem gi_X2_add : ma_gI prog M_X2_add = true := by decide +kernel
set_option maxRecDepth 100000 in
theorem gc_X2_add : mx_cw M_X2_add.y M_X2_add.cc M_X2_add.nL M_X2_add.ret M_X2_add.hs ∈ lw_tbl := List.mem_of_getElem? (i := 565) rfl
set_option maxRecDepth 100000 in
theorem gm_X2_add : ma_gM M_X2_add = true := by decide +kernel
set_option maxRecDepth 100000 in
theorem gi_X2_count : ma_gI prog M_X2_count = true := by decide +kernel
set_option maxRecDepth 100000 in
theorem gc_X2_count : mx_cw M_X2_count.y M_X2_count.cc M_X2_count.nL M_X2_count.ret M_X2_count.hs ∈ lw_tbl := List.mem_of_getElem? (i := 569) rfl
set_option maxRecDepth 100000 in
theorem gm_X2_count : ma_gM M_X2_count = true := by decide +kernel
set_option maxRecDepth 100000 in
theorem gi_X4_doses : ma_gI prog M_X4_doses = true := by decide +kernel
set_option maxRecDepth 100000 in
theorem gc_X4_doses : mx_cw M_X4_doses.y M_X4_doses.cc M_X4_doses.nL M_X4_doses.ret M_X4_doses.hs ∈ lw_tbl := List.mem_of_getElem? (i := 573) rfl
set_option maxRecDepth 100000 in
theorem gm_X4_doses : ma_gM M_X4_doses = true := by decide +kernel
set_option maxRecDepth 100000 in
theorem gi_X4_gapBehind : ma_gI prog M_X4_gapBehind = true := by decide +kernel
set_option maxRecDepth 100000 in
theorem gc_X4_gapBehind : mx_cw M_X4_gapBehind.y M_X4_gapBehind.cc M_X4_gapBehind.nL M_X4_gapBehind.ret M_X4_gapBehind.hs ∈ lw_tbl := List.mem_of_getElem? (i := 577) rfl
set_option maxRecDepth 100000 in
theorem gm_X4_gapBehind : ma_gM M_X4_gapBehind = true := by decide +kernel
set_option maxRecDepth 100000 in
theorem gi_X2_counted : ma_gI prog M_X2_counted = true := by decide +kernel
set_option maxRecDepth 100000 in
theorem gc_X2_counted : mx_cw M_X2_counted.y M_X2_counted.cc M_X2_counted.nL M_X2_counted.ret M_X2_counted.hs ∈ lw_tbl := List.mem_of_getElem? (i := 581) rfl
set_option maxRecDepth 100000 in
theorem gm_X2_counted : ma_gM M_X2_counted = true := by decide +kernel
set_option maxRecDepth 100000 in
theorem gi_L_protectedDay : ma_gI prog M_L_protectedDay = true := by decide +kernel
set_option maxRecDepth 100000 in
theorem gc_L_protectedDay : mx_cw M_L_protectedDay.y M_L_protectedDay.cc M_L_protectedDay.nL M_L_protectedDay.ret M_L_protectedDay.hs ∈ lw_tbl := List.mem_of_getElem? (i := 584) rfl
set_option maxRecDepth 100000 in
theorem gm_L_protectedDay : ma_gM M_L_protectedDay = true := by decide +kernel
set_option maxRecDepth 100000 in
theorem gi_X6_protectedDay : ma_gI prog M_X6_protectedDay = true := by decide +kernel
set_option maxRecDepth 100000 in
theorem gc_X6_protectedDay : mx_cw M_X6_protectedDay.y M_X6_protectedDay.cc M_X6_protectedDay.nL M_X6_protectedDay.ret M_X6_protectedDay.hs ∈ lw_tbl := List.mem_of_getElem? (i := 588) rfl
set_option maxRecDepth 100000 in
theorem gm_X6_protectedDay : ma_gM M_X6_protectedDay = true := by decide +kernel
set_option maxRecDepth 100000 in
theorem gi_X2_protectedFrom : ma_gI prog M_X2_protectedFrom = true := by decide +kernel
set_option maxRecDepth 100000 in
theorem gc_X2_protectedFrom : mx_cw M_X2_protectedFrom.y M_X2_protectedFrom.cc M_X2_protectedFrom.nL M_X2_protectedFrom.ret M_X2_protectedFrom.hs ∈ lw_tbl := List.mem_of_getElem? (i := 592) rfl
set_option maxRecDepth 100000 in
theorem gm_X2_protectedFrom : ma_gM M_X2_protectedFrom = true := by decide +kernel
set_option maxRecDepth 100000 in
theorem gi_L_due : ma_gI prog M_L_due = true := by decide +kernel
set_option maxRecDepth 100000 in
theorem gc_L_due : mx_cw M_L_due.y M_L_due.cc M_L_due.nL M_L_due.ret M_L_due.hs ∈ lw_tbl := List.mem_of_getElem? (i := 595) rfl
set_option maxRecDepth 100000 in
theorem gm_L_due : ma_gM M_L_due = true := by decide +kernel
set_option maxRecDepth 100000 in
theorem gi_X6_due : ma_gI prog M_X6_due = true := by decide +kernel
set_option maxRecDepth 100000 in
theorem gc_X6_due : mx_cw M_X6_due.y M_X6_due.cc M_X6_due.nL M_X6_due.ret M_X6_due.hs ∈ lw_tbl := List.mem_of_getElem? (i := 599) rfl
set_option maxRecDepth 100000 in
theorem gm_X6_due : ma_gM M_X6_due = true := by decide +kernel
set_option maxRecDepth 100000 in
theorem gi_X2_nextDay : ma_gI prog M_X2_nextDay = true := by decide +kernel
set_option maxRecDepth 100000 in
theorem gc_X2_nextDay : mx_cw M_X2_nextDay.y M_X2_nextDay.cc M_X2_nextDay.nL M_X2_nextDay.ret M_X2_nextDay.hs ∈ lw_tbl := List.mem_of_getElem? (i := 603) rfl
set_option maxRecDepth 100000 in
theorem gm_X2_nextDay : ma_gM M_X2_nextDay = true := by decide +kernel
set_option maxRecDepth 100000 in
theorem gi_L_coverage : ma_gI prog M_L_coverage = true := by decide +kernel
set_option maxRecDepth 100000 in
theorem gc_L_coverage : mx_cw M_L_coverage.y M_L_coverage.cc M_L_coverage.nL M_L_coverage.ret M_L_coverage.hs ∈ lw_tbl := List.mem_of_getElem? (i := 606) rfl
set_option maxRecDepth 100000 in
theorem gm_L_coverage : ma_gM M_L_coverage = true := by decide +kernel
set_option maxRecDepth 100000 in
theorem gi_X6_coverage : ma_gI prog M_X6_coverage = true := by decide +kernel
set_option maxRecDepth 100000 in
theorem gc_X6_coverage : mx_cw M_X6_coverage.y M_X6_coverage.cc M_X6_coverage.nL M_X6_coverage.ret M_X6_coverage.hs ∈ lw_tbl := List.mem_of_getElem? (i := 610) rfl
set_option maxRecDepth 100000 in
theorem gm_X6_coverage : ma_gM M_X6_coverage = true := by decide +kernel
set_option maxRecDepth 100000 in
theorem gi_X6_isProtectedBy : ma_gI prog M_X6_isProtectedBy = true := by decide +kernel
set_option maxRecDepth 100000 in
theorem gc_X6_isProtectedBy : mx_cw M_X6_isProtectedBy.y M_X6_isProtectedBy.cc M_X6_isProtectedBy.nL M_X6_isProtectedBy.ret M_X6_isProtectedBy.hs ∈ lw_tbl := List.mem_of_getElem? (i := 614) rfl
set_option maxRecDepth 100000 in
theorem gm_X6_isProtectedBy : ma_gM M_X6_isProtectedBy = true := by decide +kernel
set_option maxRecDepth 100000 in
theorem gi_L_sum : ma_gI prog M_L_sum = true := by decide +kernel
set_option maxRecDepth 100000 in
theorem gc_L_sum : mx_cw M_L_sum.y M_L_sum.cc M_L_sum.nL M_L_sum.ret M_L_sum.hs ∈ lw_tbl := List.mem_of_getElem? (i := 617) rfl
set_option maxRecDepth 100000 in
theorem gm_L_sum : ma_gM M_L_sum = true := by decide +kernel
set_option maxRecDepth 100000 in
theorem gi_X6_sum : ma_gI prog M_X6_sum = true := by decide +kernel
set_option maxRecDepth 100000 in
theorem gc_X6_sum : mx_cw M_X6_sum.y M_X6_sum.cc M_X6_sum.nL M_X6_sum.ret M_X6_sum.hs ∈ lw_tbl := List.mem_of_getElem? (i := 621) rfl
set_option maxRecDepth 100000 in
theorem gm_X6_sum : ma_gM M_X6_sum = true := by decide +kernel
set_option maxRecDepth 100000 in
theorem gi_X0_valueOf : ma_gI prog M_X0_valueOf = true := by decide +kernel
set_option maxRecDepth 100000 in
theorem gc_X0_valueOf : mx_cw M_X0_valueOf.y M_X0_valueOf.cc M_X0_valueOf.nL M_X0_valueOf.ret M_X0_valueOf.hs ∈ lw_tbl := List.mem_of_getElem? (i := 625) rfl
set_option maxRecDepth 100000 in
theorem gm_X0_valueOf : ma_gM M_X0_valueOf = true := by decide +kernel
set_option maxRecDepth 100000 in
theorem gi_X7_init : ma_gI prog M_X7_init = true := by decide +kernel
set_option maxRecDepth 100000 in
theorem gc_X7_init : mx_cw M_X7_init.y M_X7_init.cc M_X7_init.nL M_X7_init.ret M_X7_init.hs ∈ lw_tbl := List.mem_of_getElem? (i := 632) rfl
set_option maxRecDepth 100000 in
theorem gm_X7_init : ma_gM M_X7_init = true := by decide +kernel
set_option maxRecDepth 100000 in
theorem gi_X7_thrown : ma_gI prog M_X7_thrown = true := by decide +kernel
set_option maxRecDepth 100000 in
theorem gc_X7_thrown : mx_cw M_X7_thrown.y M_X7_thrown.cc M_X7_thrown.nL M_X7_thrown.ret M_X7_thrown.hs ∈ lw_tbl := List.mem_of_getElem? (i := 689) rfl
set_option maxRecDepth 100000 in
theorem gm_X7_thrown : ma_gM M_X7_thrown = true := by decide +kernel
set_option maxRecDepth 100000 in
theorem gi_X7_schedule : ma_gI prog M_X7_schedule = true := by decide +kernel
set_option maxRecDepth 100000 in
theorem gc_X7_schedule : mx_cw M_X7_schedule.y M_X7_schedule.cc M_X7_schedule.nL M_X7_schedule.ret M_X7_schedule.hs ∈ lw_tbl := List.mem_of_getElem? (i := 693) rfl
set_option maxRecDepth 100000 in
theorem gm_X7_schedule : ma_gM M_X7_schedule = true := by decide +kernel
set_option maxRecDepth 100000 in
theorem gi_X7_isIn : ma_gI prog M_X7_isIn = true := by decide +kernel
set_option maxRecDepth 100000 in
theorem gc_X7_isIn : mx_cw M_X7_isIn.y M_X7_isIn.cc M_X7_isIn.nL M_X7_isIn.ret M_X7_isIn.hs ∈ lw_tbl := List.mem_of_getElem? (i := 696) rfl
set_option maxRecDepth 100000 in
theorem gm_X7_isIn : ma_gM M_X7_isIn = true := by decide +kernel
set_option maxRecDepth 100000 in
theorem gi_X7_dose : ma_gI prog M_X7_dose = true := by decide +kernel
set_option maxRecDepth 100000 in
theorem gc_X7_dose : mx_cw M_X7_dose.y M_X7_dose.cc M_X7_dose.nL M_X7_dose.ret M_X7_dose.hs ∈ lw_tbl := List.mem_of_getElem? (i := 700) rfl
set_option maxRecDepth 100000 in
theorem gm_X7_dose : ma_gM M_X7_dose = true := by decide +kernel
