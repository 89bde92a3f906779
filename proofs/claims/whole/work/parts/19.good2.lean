set_option maxRecDepth 100000 in
theorem gi_X6_isGap : ma_gI prog M_X6_isGap = true := by decide +kernel
set_option maxRecDepth 100000 in
theorem gc_X6_isGap : mx_cw M_X6_isGap.y M_X6_isGap.cc M_X6_isGap.nL M_X6_isGap.ret M_X6_isGap.hs ∈ lw_tbl := List.mem_of_getElem? (i := 362) rfl
set_option maxRecDepth 100000 in
theorem gm_X6_isGap : ma_gM M_X6_isGap = true := by decide +kernel
set_option maxRecDepth 100000 in
theorem gi_X6_hasAnyEntry : ma_gI prog M_X6_hasAnyEntry = true := by decide +kernel
set_option maxRecDepth 100000 in
theorem gc_X6_hasAnyEntry : mx_cw M_X6_hasAnyEntry.y M_X6_hasAnyEntry.cc M_X6_hasAnyEntry.nL M_X6_hasAnyEntry.ret M_X6_hasAnyEntry.hs ∈ lw_tbl := List.mem_of_getElem? (i := 366) rfl
set_option maxRecDepth 100000 in
theorem gm_X6_hasAnyEntry : ma_gM M_X6_hasAnyEntry = true := by decide +kernel
set_option maxRecDepth 100000 in
theorem gi_X0_size : ma_gI prog M_X0_size = true := by decide +kernel
set_option maxRecDepth 100000 in
theorem gc_X0_size : mx_cw M_X0_size.y M_X0_size.cc M_X0_size.nL M_X0_size.ret M_X0_size.hs ∈ lw_tbl := List.mem_of_getElem? (i := 370) rfl
set_option maxRecDepth 100000 in
theorem gm_X0_size : ma_gM M_X0_size = true := by decide +kernel
set_option maxRecDepth 100000 in
theorem gi_X4_set : ma_gI prog M_X4_set = true := by decide +kernel
set_option maxRecDepth 100000 in
theorem gc_X4_set : mx_cw M_X4_set.y M_X4_set.cc M_X4_set.nL M_X4_set.ret M_X4_set.hs ∈ lw_tbl := List.mem_of_getElem? (i := 390) rfl
set_option maxRecDepth 100000 in
theorem gm_X4_set : ma_gM M_X4_set = true := by decide +kernel
set_option maxRecDepth 100000 in
theorem gi_L_dose : ma_gI prog M_L_dose = true := by decide +kernel
set_option maxRecDepth 100000 in
theorem gc_L_dose : mx_cw M_L_dose.y M_L_dose.cc M_L_dose.nL M_L_dose.ret M_L_dose.hs ∈ lw_tbl := List.mem_of_getElem? (i := 393) rfl
set_option maxRecDepth 100000 in
theorem gm_L_dose : ma_gM M_L_dose = true := by decide +kernel
set_option maxRecDepth 100000 in
theorem gi_X6_dose : ma_gI prog M_X6_dose = true := by decide +kernel
set_option maxRecDepth 100000 in
theorem gc_X6_dose : mx_cw M_X6_dose.y M_X6_dose.cc M_X6_dose.nL M_X6_dose.ret M_X6_dose.hs ∈ lw_tbl := List.mem_of_getElem? (i := 397) rfl
set_option maxRecDepth 100000 in
theorem gm_X6_dose : ma_gM M_X6_dose = true := by decide +kernel
set_option maxRecDepth 100000 in
theorem gi_X6_requireClinic : ma_gI prog M_X6_requireClinic = true := by decide +kernel
set_option maxRecDepth 100000 in
theorem gc_X6_requireClinic : mx_cw M_X6_requireClinic.y M_X6_requireClinic.cc M_X6_requireClinic.nL M_X6_requireClinic.ret M_X6_requireClinic.hs ∈ lw_tbl := List.mem_of_getElem? (i := 400) rfl
set_option maxRecDepth 100000 in
theorem gm_X6_requireClinic : ma_gM M_X6_requireClinic = true := by decide +kernel
set_option maxRecDepth 100000 in
theorem gi_X6_requirePerson : ma_gI prog M_X6_requirePerson = true := by decide +kernel
set_option maxRecDepth 100000 in
theorem gc_X6_requirePerson : mx_cw M_X6_requirePerson.y M_X6_requirePerson.cc M_X6_requirePerson.nL M_X6_requirePerson.ret M_X6_requirePerson.hs ∈ lw_tbl := List.mem_of_getElem? (i := 403) rfl
set_option maxRecDepth 100000 in
theorem gm_X6_requirePerson : ma_gM M_X6_requirePerson = true := by decide +kernel
set_option maxRecDepth 100000 in
theorem gi_X6_isDay : ma_gI prog M_X6_isDay = true := by decide +kernel
set_option maxRecDepth 100000 in
theorem gc_X6_isDay : mx_cw M_X6_isDay.y M_X6_isDay.cc M_X6_isDay.nL M_X6_isDay.ret M_X6_isDay.hs ∈ lw_tbl := List.mem_of_getElem? (i := 406) rfl
set_option maxRecDepth 100000 in
theorem gm_X6_isDay : ma_gM M_X6_isDay = true := by decide +kernel
set_option maxRecDepth 100000 in
theorem gi_X6_append : ma_gI prog M_X6_append = true := by decide +kernel
set_option maxRecDepth 100000 in
theorem gc_X6_append : mx_cw M_X6_append.y M_X6_append.cc M_X6_append.nL M_X6_append.ret M_X6_append.hs ∈ lw_tbl := List.mem_of_getElem? (i := 411) rfl
set_option maxRecDepth 100000 in
theorem gm_X6_append : ma_gM M_X6_append = true := by decide +kernel
set_option maxRecDepth 100000 in
theorem gi_X0_isFull : ma_gI prog M_X0_isFull = true := by decide +kernel
set_option maxRecDepth 100000 in
theorem gc_X0_isFull : mx_cw M_X0_isFull.y M_X0_isFull.cc M_X0_isFull.nL M_X0_isFull.ret M_X0_isFull.hs ∈ lw_tbl := List.mem_of_getElem? (i := 415) rfl
set_option maxRecDepth 100000 in
theorem gm_X0_isFull : ma_gM M_X0_isFull = true := by decide +kernel
set_option maxRecDepth 100000 in
theorem gi_X0_append : ma_gI prog M_X0_append = true := by decide +kernel
set_option maxRecDepth 100000 in
theorem gc_X0_append : mx_cw M_X0_append.y M_X0_append.cc M_X0_append.nL M_X0_append.ret M_X0_append.hs ∈ lw_tbl := List.mem_of_getElem? (i := 420) rfl
set_option maxRecDepth 100000 in
theorem gm_X0_append : ma_gM M_X0_append = true := by decide +kernel
set_option maxRecDepth 100000 in
theorem gi_X1_learn : ma_gI prog M_X1_learn = true := by decide +kernel
set_option maxRecDepth 100000 in
theorem gc_X1_learn : mx_cw M_X1_learn.y M_X1_learn.cc M_X1_learn.nL M_X1_learn.ret M_X1_learn.hs ∈ lw_tbl := List.mem_of_getElem? (i := 425) rfl
set_option maxRecDepth 100000 in
theorem gm_X1_learn : ma_gM M_X1_learn = true := by decide +kernel
set_option maxRecDepth 100000 in
theorem gi_L_strike : ma_gI prog M_L_strike = true := by decide +kernel
set_option maxRecDepth 100000 in
theorem gc_L_strike : mx_cw M_L_strike.y M_L_strike.cc M_L_strike.nL M_L_strike.ret M_L_strike.hs ∈ lw_tbl := List.mem_of_getElem? (i := 428) rfl
set_option maxRecDepth 100000 in
theorem gm_L_strike : ma_gM M_L_strike = true := by decide +kernel
set_option maxRecDepth 100000 in
theorem gi_X6_strike : ma_gI prog M_X6_strike = true := by decide +kernel
set_option maxRecDepth 100000 in
theorem gc_X6_strike : mx_cw M_X6_strike.y M_X6_strike.cc M_X6_strike.nL M_X6_strike.ret M_X6_strike.hs ∈ lw_tbl := List.mem_of_getElem? (i := 432) rfl
set_option maxRecDepth 100000 in
theorem gm_X6_strike : ma_gM M_X6_strike = true := by decide +kernel
set_option maxRecDepth 100000 in
theorem gi_L_recall : ma_gI prog M_L_recall = true := by decide +kernel
set_option maxRecDepth 100000 in
theorem gc_L_recall : mx_cw M_L_recall.y M_L_recall.cc M_L_recall.nL M_L_recall.ret M_L_recall.hs ∈ lw_tbl := List.mem_of_getElem? (i := 436) rfl
set_option maxRecDepth 100000 in
theorem gm_L_recall : ma_gM M_L_recall = true := by decide +kernel
set_option maxRecDepth 100000 in
theorem gi_X6_recall : ma_gI prog M_X6_recall = true := by decide +kernel
set_option maxRecDepth 100000 in
theorem gc_X6_recall : mx_cw M_X6_recall.y M_X6_recall.cc M_X6_recall.nL M_X6_recall.ret M_X6_recall.hs ∈ lw_tbl := List.mem_of_getElem? (i := 440) rfl
set_option maxRecDepth 100000 in
theorem gm_X6_recall : ma_gM M_X6_recall = true := by decide +kernel
set_option maxRecDepth 100000 in
theorem gi_L_same : ma_gI prog M_L_same = true := by decide +kernel
set_option maxRecDepth 100000 in
theorem gc_L_same : mx_cw M_L_same.y M_L_same.cc M_L_same.nL M_L_same.ret M_L_same.hs ∈ lw_tbl := List.mem_of_getElem? (i := 443) rfl
set_option maxRecDepth 100000 in
theorem gm_L_same : ma_gM M_L_same = true := by decide +kernel
set_option maxRecDepth 100000 in
theorem gi_X6_same : ma_gI prog M_X6_same = true := by decide +kernel
set_option maxRecDepth 100000 in
theorem gc_X6_same : mx_cw M_X6_same.y M_X6_same.cc M_X6_same.nL M_X6_same.ret M_X6_same.hs ∈ lw_tbl := List.mem_of_getElem? (i := 447) rfl
set_option maxRecDepth 100000 in
theorem gm_X6_same : ma_gM M_X6_same = true := by decide +kernel
set_option maxRecDepth 100000 in
theorem gi_L_write : ma_gI prog M_L_write = true := by decide +kernel
set_option maxRecDepth 100000 in
theorem gc_L_write : mx_cw M_L_write.y M_L_write.cc M_L_write.nL M_L_write.ret M_L_write.hs ∈ lw_tbl := List.mem_of_getElem? (i := 450) rfl
set_option maxRecDepth 100000 in
theorem gm_L_write : ma_gM M_L_write = true := by decide +kernel
set_option maxRecDepth 100000 in
theorem gi_X6_write : ma_gI prog M_X6_write = true := by decide +kernel
set_option maxRecDepth 100000 in
theorem gc_X6_write : mx_cw M_X6_write.y M_X6_write.cc M_X6_write.nL M_X6_write.ret M_X6_write.hs ∈ lw_tbl := List.mem_of_getElem? (i := 454) rfl
set_option maxRecDepth 100000 in
theorem gm_X6_write : ma_gM M_X6_write = true := by decide +kernel
set_option maxRecDepth 100000 in
theorem gi_X6_requireStick : ma_gI prog M_X6_requireStick = true := by decide +kernel
set_option maxRecDepth 100000 in
theorem gc_X6_requireStick : mx_cw M_X6_requireStick.y M_X6_requireStick.cc M_X6_requireStick.nL M_X6_requireStick.ret M_X6_requireStick.hs ∈ lw_tbl := List.mem_of_getElem? (i := 457) rfl
set_option maxRecDepth 100000 in
theorem gm_X6_requireStick : ma_gM M_X6_requireStick = true := by decide +kernel
set_option maxRecDepth 100000 in
theorem gi_X5_begin : ma_gI prog M_X5_begin = true := by decide +kernel
set_option maxRecDepth 100000 in
theorem gc_X5_begin : mx_cw M_X5_begin.y M_X5_begin.cc M_X5_begin.nL M_X5_begin.ret M_X5_begin.hs ∈ lw_tbl := List.mem_of_getElem? (i := 461) rfl
set_option maxRecDepth 100000 in
theorem gm_X5_begin : ma_gM M_X5_begin = true := by decide +kernel
set_option maxRecDepth 100000 in
theorem gi_X5_setWriterKnew : ma_gI prog M_X5_setWriterKnew = true := by decide +kernel
set_option maxRecDepth 100000 in
theorem gc_X5_setWriterKnew : mx_cw M_X5_setWriterKnew.y M_X5_setWriterKnew.cc M_X5_setWriterKnew.nL M_X5_setWriterKnew.ret M_X5_setWriterKnew.hs ∈ lw_tbl := List.mem_of_getElem? (i := 465) rfl
set_option maxRecDepth 100000 in
theorem gm_X5_setWriterKnew : ma_gM M_X5_setWriterKnew = true := by decide +kernel
set_option maxRecDepth 100000 in
theorem gi_X1_leastHeard : ma_gI prog M_X1_leastHeard = true := by decide +kernel
set_option maxRecDepth 100000 in
theorem gc_X1_leastHeard : mx_cw M_X1_leastHeard.y M_X1_leastHeard.cc M_X1_leastHeard.nL M_X1_leastHeard.ret M_X1_leastHeard.hs ∈ lw_tbl := List.mem_of_getElem? (i := 470) rfl
set_option maxRecDepth 100000 in
theorem gm_X1_leastHeard : ma_gM M_X1_leastHeard = true := by decide +kernel
set_option maxRecDepth 100000 in
theorem gi_X5_add : ma_gI prog M_X5_add = true := by decide +kernel
set_option maxRecDepth 100000 in
theorem gc_X5_add : mx_cw M_X5_add.y M_X5_add.cc M_X5_add.nL M_X5_add.ret M_X5_add.hs ∈ lw_tbl := List.mem_of_getElem? (i := 476) rfl
set_option maxRecDepth 100000 in
theorem gm_X5_add : ma_gM M_X5_add = true := by decide +kernel
set_option maxRecDepth 100000 in
theorem gi_X5_finish : ma_gI prog M_X5_finish = true := by decide +kernel
set_option maxRecDepth 100000 in
theorem gc_X5_finish : mx_cw M_X5_finish.y M_X5_finish.cc M_X5_finish.nL M_X5_finish.ret M_X5_finish.hs ∈ lw_tbl := List.mem_of_getElem? (i := 480) rfl
set_option maxRecDepth 100000 in
theorem gm_X5_finish : ma_gM M_X5_finish = true := by decide +kernel
set_option maxRecDepth 100000 in
theorem gi_L_tear : ma_gI prog M_L_tear = true := by decide +kernel
set_option maxRecDepth 100000 in
theorem gc_L_tear : mx_cw M_L_tear.y M_L_tear.cc M_L_tear.nL M_L_tear.ret M_L_tear.hs ∈ lw_tbl := List.mem_of_getElem? (i := 483) rfl
set_option maxRecDepth 100000 in
theorem gm_L_tear : ma_gM M_L_tear = true := by decide +kernel
set_option maxRecDepth 100000 in
theorem gi_X6_tear : ma_gI prog M_X6_tear = true := by decide +kernel
set_option maxRecDepth 100000 in
theorem gc_X6_tear : mx_cw M_X6_tear.y M_X6_tear.cc M_X6_tear.nL M_X6_tear.ret M_X6_tear.hs ∈ lw_tbl := List.mem_of_getElem? (i := 487) rfl
set_option maxRecDepth 100000 in
theorem gm_X6_tear : ma_gM M_X6_tear = true := by decide +kernel
set_option maxRecDepth 100000 in
theorem gi_X5_cutAt : ma_gI prog M_X5_cutAt = true := by decide +kernel
set_option maxRecDepth 100000 in
theorem gc_X5_cutAt : mx_cw M_X5_cutAt.y M_X5_cutAt.cc M_X5_cutAt.nL M_X5_cutAt.ret M_X5_cutAt.hs ∈ lw_tbl := List.mem_of_getElem? (i := 491) rfl
set_option maxRecDepth 100000 in
theorem gm_X5_cutAt : ma_gM M_X5_cutAt = true := by decide +kernel
set_option maxRecDepth 100000 in
theorem gi_L_load : ma_gI prog M_L_load = true := by decide +kernel
set_option maxRecDepth 100000 in
theorem gc_L_load : mx_cw M_L_load.y M_L_load.cc M_L_load.nL M_L_load.ret M_L_load.hs ∈ lw_tbl := List.mem_of_getElem? (i := 496) rfl
set_option maxRecDepth 100000 in
theorem gm_L_load : ma_gM M_L_load = true := by decide +kernel
set_option maxRecDepth 100000 in
theorem gi_X6_load : ma_gI prog M_X6_load = true := by decide +kernel
set_option maxRecDepth 100000 in
theorem gc_X6_load : mx_cw M_X6_load.y M_X6_load.cc M_X6_load.nL M_X6_load.ret M_X6_load.hs ∈ lw_tbl := List.mem_of_getElem? (i := 500) rfl
set_option maxRecDepth 100000 in
theorem gm_X6_load : ma_gM M_X6_load = true := by decide +kernel
set_option maxRecDepth 100000 in
theorem gi_X6_hearWriter : ma_gI prog M_X6_hearWriter = true := by decide +kernel
set_option maxRecDepth 100000 in
theorem gc_X6_hearWriter : mx_cw M_X6_hearWriter.y M_X6_hearWriter.cc M_X6_hearWriter.nL M_X6_hearWriter.ret M_X6_hearWriter.hs ∈ lw_tbl := List.mem_of_getElem? (i := 503) rfl
set_option maxRecDepth 100000 in
theorem gm_X6_hearWriter : ma_gM M_X6_hearWriter = true := by decide +kernel
set_option maxRecDepth 100000 in
theorem gi_X5_writerKnew : ma_gI prog M_X5_writerKnew = true := by decide +kernel
set_option maxRecDepth 100000 in
theorem gc_X5_writerKnew : mx_cw M_X5_writerKnew.y M_X5_writerKnew.cc M_X5_writerKnew.nL M_X5_writerKnew.ret M_X5_writerKnew.hs ∈ lw_tbl := List.mem_of_getElem? (i := 507) rfl
set_option maxRecDepth 100000 in
theorem gm_X5_writerKnew : ma_gM M_X5_writerKnew = true := by decide +kernel
set_option maxRecDepth 100000 in
theorem gi_X1_hear : ma_gI prog M_X1_hear = true := by decide +kernel
set_option maxRecDepth 100000 in
theorem gc_X1_hear : mx_cw M_X1_hear.y M_X1_hear.cc M_X1_hear.nL M_X1_hear.ret M_X1_hear.hs ∈ lw_tbl := List.mem_of_getElem? (i := 511) rfl
set_option maxRecDepth 100000 in
theorem gm_X1_hear : ma_gM M_X1_hear = true := by decide +kernel
