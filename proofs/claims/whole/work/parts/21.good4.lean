set_option maxRecDepth 100000 in
theorem gi_X7_note : ma_gI prog M_X7_note = true := by decide +kernel
set_option maxRecDepth 100000 in
theorem gc_X7_note : mx_cw M_X7_note.y M_X7_note.cc M_X7_note.nL M_X7_note.ret M_X7_note.hs ∈ lw_tbl := List.mem_of_getElem? (i := 705) rfl
set_option maxRecDepth 100000 in
theorem gm_X7_note : ma_gM M_X7_note = true := by decide +kernel
set_option maxRecDepth 100000 in
theorem gi_X7_strike : ma_gI prog M_X7_strike = true := by decide +kernel
set_option maxRecDepth 100000 in
theorem gc_X7_strike : mx_cw M_X7_strike.y M_X7_strike.cc M_X7_strike.nL M_X7_strike.ret M_X7_strike.hs ∈ lw_tbl := List.mem_of_getElem? (i := 709) rfl
set_option maxRecDepth 100000 in
theorem gm_X7_strike : ma_gM M_X7_strike = true := by decide +kernel
set_option maxRecDepth 100000 in
theorem gi_X7_isStruck : ma_gI prog M_X7_isStruck = true := by decide +kernel
set_option maxRecDepth 100000 in
theorem gc_X7_isStruck : mx_cw M_X7_isStruck.y M_X7_isStruck.cc M_X7_isStruck.nL M_X7_isStruck.ret M_X7_isStruck.hs ∈ lw_tbl := List.mem_of_getElem? (i := 713) rfl
set_option maxRecDepth 100000 in
theorem gm_X7_isStruck : ma_gM M_X7_isStruck = true := by decide +kernel
set_option maxRecDepth 100000 in
theorem gi_X7_recall : ma_gI prog M_X7_recall = true := by decide +kernel
set_option maxRecDepth 100000 in
theorem gc_X7_recall : mx_cw M_X7_recall.y M_X7_recall.cc M_X7_recall.nL M_X7_recall.ret M_X7_recall.hs ∈ lw_tbl := List.mem_of_getElem? (i := 717) rfl
set_option maxRecDepth 100000 in
theorem gm_X7_recall : ma_gM M_X7_recall = true := by decide +kernel
set_option maxRecDepth 100000 in
theorem gi_X7_same : ma_gI prog M_X7_same = true := by decide +kernel
set_option maxRecDepth 100000 in
theorem gc_X7_same : mx_cw M_X7_same.y M_X7_same.cc M_X7_same.nL M_X7_same.ret M_X7_same.hs ∈ lw_tbl := List.mem_of_getElem? (i := 721) rfl
set_option maxRecDepth 100000 in
theorem gm_X7_same : ma_gM M_X7_same = true := by decide +kernel
set_option maxRecDepth 100000 in
theorem gi_X7_write : ma_gI prog M_X7_write = true := by decide +kernel
set_option maxRecDepth 100000 in
theorem gc_X7_write : mx_cw M_X7_write.y M_X7_write.cc M_X7_write.nL M_X7_write.ret M_X7_write.hs ∈ lw_tbl := List.mem_of_getElem? (i := 725) rfl
set_option maxRecDepth 100000 in
theorem gm_X7_write : ma_gM M_X7_write = true := by decide +kernel
set_option maxRecDepth 100000 in
theorem gi_X7_least : ma_gI prog M_X7_least = true := by decide +kernel
set_option maxRecDepth 100000 in
theorem gc_X7_least : mx_cw M_X7_least.y M_X7_least.cc M_X7_least.nL M_X7_least.ret M_X7_least.hs ∈ lw_tbl := List.mem_of_getElem? (i := 729) rfl
set_option maxRecDepth 100000 in
theorem gm_X7_least : ma_gM M_X7_least = true := by decide +kernel
set_option maxRecDepth 100000 in
theorem gi_X7_tear : ma_gI prog M_X7_tear = true := by decide +kernel
set_option maxRecDepth 100000 in
theorem gc_X7_tear : mx_cw M_X7_tear.y M_X7_tear.cc M_X7_tear.nL M_X7_tear.ret M_X7_tear.hs ∈ lw_tbl := List.mem_of_getElem? (i := 733) rfl
set_option maxRecDepth 100000 in
theorem gm_X7_tear : ma_gM M_X7_tear = true := by decide +kernel
set_option maxRecDepth 100000 in
theorem gi_X7_load : ma_gI prog M_X7_load = true := by decide +kernel
set_option maxRecDepth 100000 in
theorem gc_X7_load : mx_cw M_X7_load.y M_X7_load.cc M_X7_load.nL M_X7_load.ret M_X7_load.hs ∈ lw_tbl := List.mem_of_getElem? (i := 737) rfl
set_option maxRecDepth 100000 in
theorem gm_X7_load : ma_gM M_X7_load = true := by decide +kernel
set_option maxRecDepth 100000 in
theorem gi_X7_readable : ma_gI prog M_X7_readable = true := by decide +kernel
set_option maxRecDepth 100000 in
theorem gc_X7_readable : mx_cw M_X7_readable.y M_X7_readable.cc M_X7_readable.nL M_X7_readable.ret M_X7_readable.hs ∈ lw_tbl := List.mem_of_getElem? (i := 741) rfl
set_option maxRecDepth 100000 in
theorem gm_X7_readable : ma_gM M_X7_readable = true := by decide +kernel
set_option maxRecDepth 100000 in
theorem gi_X7_stick : ma_gI prog M_X7_stick = true := by decide +kernel
set_option maxRecDepth 100000 in
theorem gc_X7_stick : mx_cw M_X7_stick.y M_X7_stick.cc M_X7_stick.nL M_X7_stick.ret M_X7_stick.hs ∈ lw_tbl := List.mem_of_getElem? (i := 745) rfl
set_option maxRecDepth 100000 in
theorem gm_X7_stick : ma_gM M_X7_stick = true := by decide +kernel
set_option maxRecDepth 100000 in
theorem gi_X7_known : ma_gI prog M_X7_known = true := by decide +kernel
set_option maxRecDepth 100000 in
theorem gc_X7_known : mx_cw M_X7_known.y M_X7_known.cc M_X7_known.nL M_X7_known.ret M_X7_known.hs ∈ lw_tbl := List.mem_of_getElem? (i := 749) rfl
set_option maxRecDepth 100000 in
theorem gm_X7_known : ma_gM M_X7_known = true := by decide +kernel
set_option maxRecDepth 100000 in
theorem gi_X7_heard : ma_gI prog M_X7_heard = true := by decide +kernel
set_option maxRecDepth 100000 in
theorem gc_X7_heard : mx_cw M_X7_heard.y M_X7_heard.cc M_X7_heard.nL M_X7_heard.ret M_X7_heard.hs ∈ lw_tbl := List.mem_of_getElem? (i := 753) rfl
set_option maxRecDepth 100000 in
theorem gm_X7_heard : ma_gM M_X7_heard = true := by decide +kernel
set_option maxRecDepth 100000 in
theorem gi_X7_entry : ma_gI prog M_X7_entry = true := by decide +kernel
set_option maxRecDepth 100000 in
theorem gc_X7_entry : mx_cw M_X7_entry.y M_X7_entry.cc M_X7_entry.nL M_X7_entry.ret M_X7_entry.hs ∈ lw_tbl := List.mem_of_getElem? (i := 757) rfl
set_option maxRecDepth 100000 in
theorem gm_X7_entry : ma_gM M_X7_entry = true := by decide +kernel
set_option maxRecDepth 100000 in
theorem gi_X7_counting : ma_gI prog M_X7_counting = true := by decide +kernel
set_option maxRecDepth 100000 in
theorem gc_X7_counting : mx_cw M_X7_counting.y M_X7_counting.cc M_X7_counting.nL M_X7_counting.ret M_X7_counting.hs ∈ lw_tbl := List.mem_of_getElem? (i := 761) rfl
set_option maxRecDepth 100000 in
theorem gm_X7_counting : ma_gM M_X7_counting = true := by decide +kernel
set_option maxRecDepth 100000 in
theorem gi_X7_may : ma_gI prog M_X7_may = true := by decide +kernel
set_option maxRecDepth 100000 in
theorem gc_X7_may : mx_cw M_X7_may.y M_X7_may.cc M_X7_may.nL M_X7_may.ret M_X7_may.hs ∈ lw_tbl := List.mem_of_getElem? (i := 765) rfl
set_option maxRecDepth 100000 in
theorem gm_X7_may : ma_gM M_X7_may = true := by decide +kernel
set_option maxRecDepth 100000 in
theorem gi_X7_judge : ma_gI prog M_X7_judge = true := by decide +kernel
set_option maxRecDepth 100000 in
theorem gc_X7_judge : mx_cw M_X7_judge.y M_X7_judge.cc M_X7_judge.nL M_X7_judge.ret M_X7_judge.hs ∈ lw_tbl := List.mem_of_getElem? (i := 769) rfl
set_option maxRecDepth 100000 in
theorem gm_X7_judge : ma_gM M_X7_judge = true := by decide +kernel
set_option maxRecDepth 100000 in
theorem gi_X7_names : ma_gI prog M_X7_names = true := by decide +kernel
set_option maxRecDepth 100000 in
theorem gc_X7_names : mx_cw M_X7_names.y M_X7_names.cc M_X7_names.nL M_X7_names.ret M_X7_names.hs ∈ lw_tbl := List.mem_of_getElem? (i := 773) rfl
set_option maxRecDepth 100000 in
theorem gm_X7_names : ma_gM M_X7_names = true := by decide +kernel
set_option maxRecDepth 100000 in
theorem gi_X7_isValid : ma_gI prog M_X7_isValid = true := by decide +kernel
set_option maxRecDepth 100000 in
theorem gc_X7_isValid : mx_cw M_X7_isValid.y M_X7_isValid.cc M_X7_isValid.nL M_X7_isValid.ret M_X7_isValid.hs ∈ lw_tbl := List.mem_of_getElem? (i := 777) rfl
set_option maxRecDepth 100000 in
theorem gm_X7_isValid : ma_gM M_X7_isValid = true := by decide +kernel
set_option maxRecDepth 100000 in
theorem gi_X7_isKnown : ma_gI prog M_X7_isKnown = true := by decide +kernel
set_option maxRecDepth 100000 in
theorem gc_X7_isKnown : mx_cw M_X7_isKnown.y M_X7_isKnown.cc M_X7_isKnown.nL M_X7_isKnown.ret M_X7_isKnown.hs ∈ lw_tbl := List.mem_of_getElem? (i := 781) rfl
set_option maxRecDepth 100000 in
theorem gm_X7_isKnown : ma_gM M_X7_isKnown = true := by decide +kernel
set_option maxRecDepth 100000 in
theorem gi_X7_isRecalled : ma_gI prog M_X7_isRecalled = true := by decide +kernel
set_option maxRecDepth 100000 in
theorem gc_X7_isRecalled : mx_cw M_X7_isRecalled.y M_X7_isRecalled.cc M_X7_isRecalled.nL M_X7_isRecalled.ret M_X7_isRecalled.hs ∈ lw_tbl := List.mem_of_getElem? (i := 785) rfl
set_option maxRecDepth 100000 in
theorem gm_X7_isRecalled : ma_gM M_X7_isRecalled = true := by decide +kernel
set_option maxRecDepth 100000 in
theorem gi_X7_count : ma_gI prog M_X7_count = true := by decide +kernel
set_option maxRecDepth 100000 in
theorem gc_X7_count : mx_cw M_X7_count.y M_X7_count.cc M_X7_count.nL M_X7_count.ret M_X7_count.hs ∈ lw_tbl := List.mem_of_getElem? (i := 789) rfl
set_option maxRecDepth 100000 in
theorem gm_X7_count : ma_gM M_X7_count = true := by decide +kernel
set_option maxRecDepth 100000 in
theorem gi_X7_protectedDay : ma_gI prog M_X7_protectedDay = true := by decide +kernel
set_option maxRecDepth 100000 in
theorem gc_X7_protectedDay : mx_cw M_X7_protectedDay.y M_X7_protectedDay.cc M_X7_protectedDay.nL M_X7_protectedDay.ret M_X7_protectedDay.hs ∈ lw_tbl := List.mem_of_getElem? (i := 793) rfl
set_option maxRecDepth 100000 in
theorem gm_X7_protectedDay : ma_gM M_X7_protectedDay = true := by decide +kernel
set_option maxRecDepth 100000 in
theorem gi_X7_due : ma_gI prog M_X7_due = true := by decide +kernel
set_option maxRecDepth 100000 in
theorem gc_X7_due : mx_cw M_X7_due.y M_X7_due.cc M_X7_due.nL M_X7_due.ret M_X7_due.hs ∈ lw_tbl := List.mem_of_getElem? (i := 797) rfl
set_option maxRecDepth 100000 in
theorem gm_X7_due : ma_gM M_X7_due = true := by decide +kernel
set_option maxRecDepth 100000 in
theorem gi_X7_coverage : ma_gI prog M_X7_coverage = true := by decide +kernel
set_option maxRecDepth 100000 in
theorem gc_X7_coverage : mx_cw M_X7_coverage.y M_X7_coverage.cc M_X7_coverage.nL M_X7_coverage.ret M_X7_coverage.hs ∈ lw_tbl := List.mem_of_getElem? (i := 801) rfl
set_option maxRecDepth 100000 in
theorem gm_X7_coverage : ma_gM M_X7_coverage = true := by decide +kernel
set_option maxRecDepth 100000 in
theorem gi_X7_lotList : ma_gI prog M_X7_lotList = true := by decide +kernel
set_option maxRecDepth 100000 in
theorem gc_X7_lotList : mx_cw M_X7_lotList.y M_X7_lotList.cc M_X7_lotList.nL M_X7_lotList.ret M_X7_lotList.hs ∈ lw_tbl := List.mem_of_getElem? (i := 805) rfl
set_option maxRecDepth 100000 in
theorem gm_X7_lotList : ma_gM M_X7_lotList = true := by decide +kernel
set_option maxRecDepth 100000 in
theorem gi_X7_whoIs : ma_gI prog M_X7_whoIs = true := by decide +kernel
set_option maxRecDepth 100000 in
theorem gc_X7_whoIs : mx_cw M_X7_whoIs.y M_X7_whoIs.cc M_X7_whoIs.nL M_X7_whoIs.ret M_X7_whoIs.hs ∈ lw_tbl := List.mem_of_getElem? (i := 809) rfl
set_option maxRecDepth 100000 in
theorem gm_X7_whoIs : ma_gM M_X7_whoIs = true := by decide +kernel
set_option maxRecDepth 100000 in
theorem gi_X7_sum : ma_gI prog M_X7_sum = true := by decide +kernel
set_option maxRecDepth 100000 in
theorem gc_X7_sum : mx_cw M_X7_sum.y M_X7_sum.cc M_X7_sum.nL M_X7_sum.ret M_X7_sum.hs ∈ lw_tbl := List.mem_of_getElem? (i := 813) rfl
set_option maxRecDepth 100000 in
theorem gm_X7_sum : ma_gM M_X7_sum = true := by decide +kernel
