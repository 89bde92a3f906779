set_option maxRecDepth 100000 in
theorem gi_X6_init : ma_gI prog M_X6_init = true := by decide +kernel
set_option maxRecDepth 100000 in
theorem gc_X6_init : mx_cw M_X6_init.y M_X6_init.cc M_X6_init.nL M_X6_init.ret M_X6_init.hs ∈ lw_tbl := List.mem_of_getElem? (i := 42) rfl
set_option maxRecDepth 100000 in
theorem gm_X6_init : ma_gM M_X6_init = true := by decide +kernel
set_option maxRecDepth 100000 in
theorem gi_X4_init : ma_gI prog M_X4_init = true := by decide +kernel
set_option maxRecDepth 100000 in
theorem gc_X4_init : mx_cw M_X4_init.y M_X4_init.cc M_X4_init.nL M_X4_init.ret M_X4_init.hs ∈ lw_tbl := List.mem_of_getElem? (i := 51) rfl
set_option maxRecDepth 100000 in
theorem gm_X4_init : ma_gM M_X4_init = true := by decide +kernel
set_option maxRecDepth 100000 in
theorem gi_X0_init : ma_gI prog M_X0_init = true := by decide +kernel
set_option maxRecDepth 100000 in
theorem gc_X0_init : mx_cw M_X0_init.y M_X0_init.cc M_X0_init.nL M_X0_init.ret M_X0_init.hs ∈ lw_tbl := List.mem_of_getElem? (i := 73) rfl
set_option maxRecDepth 100000 in
theorem gm_X0_init : ma_gM M_X0_init = true := by decide +kernel
set_option maxRecDepth 100000 in
theorem gi_X1_init : ma_gI prog M_X1_init = true := by decide +kernel
set_option maxRecDepth 100000 in
theorem gc_X1_init : mx_cw M_X1_init.y M_X1_init.cc M_X1_init.nL M_X1_init.ret M_X1_init.hs ∈ lw_tbl := List.mem_of_getElem? (i := 89) rfl
set_option maxRecDepth 100000 in
theorem gm_X1_init : ma_gM M_X1_init = true := by decide +kernel
set_option maxRecDepth 100000 in
theorem gi_X5_init : ma_gI prog M_X5_init = true := by decide +kernel
set_option maxRecDepth 100000 in
theorem gc_X5_init : mx_cw M_X5_init.y M_X5_init.cc M_X5_init.nL M_X5_init.ret M_X5_init.hs ∈ lw_tbl := List.mem_of_getElem? (i := 106) rfl
set_option maxRecDepth 100000 in
theorem gm_X5_init : ma_gM M_X5_init = true := by decide +kernel
set_option maxRecDepth 100000 in
theorem gi_X3_init : ma_gI prog M_X3_init = true := by decide +kernel
set_option maxRecDepth 100000 in
theorem gc_X3_init : mx_cw M_X3_init.y M_X3_init.cc M_X3_init.nL M_X3_init.ret M_X3_init.hs ∈ lw_tbl := List.mem_of_getElem? (i := 131) rfl
set_option maxRecDepth 100000 in
theorem gm_X3_init : ma_gM M_X3_init = true := by decide +kernel
set_option maxRecDepth 100000 in
theorem gi_X2_init : ma_gI prog M_X2_init = true := by decide +kernel
set_option maxRecDepth 100000 in
theorem gc_X2_init : mx_cw M_X2_init.y M_X2_init.cc M_X2_init.nL M_X2_init.ret M_X2_init.hs ∈ lw_tbl := List.mem_of_getElem? (i := 141) rfl
set_option maxRecDepth 100000 in
theorem gm_X2_init : ma_gM M_X2_init = true := by decide +kernel
set_option maxRecDepth 100000 in
theorem gi_X6_stick : ma_gI prog M_X6_stick = true := by decide +kernel
set_option maxRecDepth 100000 in
theorem gc_X6_stick : mx_cw M_X6_stick.y M_X6_stick.cc M_X6_stick.nL M_X6_stick.ret M_X6_stick.hs ∈ lw_tbl := List.mem_of_getElem? (i := 178) rfl
set_option maxRecDepth 100000 in
theorem gm_X6_stick : ma_gM M_X6_stick = true := by decide +kernel
set_option maxRecDepth 100000 in
theorem gi_X6_isStick : ma_gI prog M_X6_isStick = true := by decide +kernel
set_option maxRecDepth 100000 in
theorem gc_X6_isStick : mx_cw M_X6_isStick.y M_X6_isStick.cc M_X6_isStick.nL M_X6_isStick.ret M_X6_isStick.hs ∈ lw_tbl := List.mem_of_getElem? (i := 181) rfl
set_option maxRecDepth 100000 in
theorem gm_X6_isStick : ma_gM M_X6_isStick = true := by decide +kernel
set_option maxRecDepth 100000 in
theorem gi_X5_wholePages : ma_gI prog M_X5_wholePages = true := by decide +kernel
set_option maxRecDepth 100000 in
theorem gc_X5_wholePages : mx_cw M_X5_wholePages.y M_X5_wholePages.cc M_X5_wholePages.nL M_X5_wholePages.ret M_X5_wholePages.hs ∈ lw_tbl := List.mem_of_getElem? (i := 185) rfl
set_option maxRecDepth 100000 in
theorem gm_X5_wholePages : ma_gM M_X5_wholePages = true := by decide +kernel
set_option maxRecDepth 100000 in
theorem gi_X5_writer : ma_gI prog M_X5_writer = true := by decide +kernel
set_option maxRecDepth 100000 in
theorem gc_X5_writer : mx_cw M_X5_writer.y M_X5_writer.cc M_X5_writer.nL M_X5_writer.ret M_X5_writer.hs ∈ lw_tbl := List.mem_of_getElem? (i := 189) rfl
set_option maxRecDepth 100000 in
theorem gm_X5_writer : ma_gM M_X5_writer = true := by decide +kernel
set_option maxRecDepth 100000 in
theorem gi_X5_entryCount : ma_gI prog M_X5_entryCount = true := by decide +kernel
set_option maxRecDepth 100000 in
theorem gc_X5_entryCount : mx_cw M_X5_entryCount.y M_X5_entryCount.cc M_X5_entryCount.nL M_X5_entryCount.ret M_X5_entryCount.hs ∈ lw_tbl := List.mem_of_getElem? (i := 193) rfl
set_option maxRecDepth 100000 in
theorem gm_X5_entryCount : ma_gM M_X5_entryCount = true := by decide +kernel
set_option maxRecDepth 100000 in
theorem gi_X6_known : ma_gI prog M_X6_known = true := by decide +kernel
set_option maxRecDepth 100000 in
theorem gc_X6_known : mx_cw M_X6_known.y M_X6_known.cc M_X6_known.nL M_X6_known.ret M_X6_known.hs ∈ lw_tbl := List.mem_of_getElem? (i := 197) rfl
set_option maxRecDepth 100000 in
theorem gm_X6_known : ma_gM M_X6_known = true := by decide +kernel
set_option maxRecDepth 100000 in
theorem gi_X6_isClinic : ma_gI prog M_X6_isClinic = true := by decide +kernel
set_option maxRecDepth 100000 in
theorem gc_X6_isClinic : mx_cw M_X6_isClinic.y M_X6_isClinic.cc M_X6_isClinic.nL M_X6_isClinic.ret M_X6_isClinic.hs ∈ lw_tbl := List.mem_of_getElem? (i := 200) rfl
set_option maxRecDepth 100000 in
theorem gm_X6_isClinic : ma_gM M_X6_isClinic = true := by decide +kernel
set_option maxRecDepth 100000 in
theorem gi_X1_knows : ma_gI prog M_X1_knows = true := by decide +kernel
set_option maxRecDepth 100000 in
theorem gc_X1_knows : mx_cw M_X1_knows.y M_X1_knows.cc M_X1_knows.nL M_X1_knows.ret M_X1_knows.hs ∈ lw_tbl := List.mem_of_getElem? (i := 204) rfl
set_option maxRecDepth 100000 in
theorem gm_X1_knows : ma_gM M_X1_knows = true := by decide +kernel
set_option maxRecDepth 100000 in
theorem gi_X6_heard : ma_gI prog M_X6_heard = true := by decide +kernel
set_option maxRecDepth 100000 in
theorem gc_X6_heard : mx_cw M_X6_heard.y M_X6_heard.cc M_X6_heard.nL M_X6_heard.ret M_X6_heard.hs ∈ lw_tbl := List.mem_of_getElem? (i := 209) rfl
set_option maxRecDepth 100000 in
theorem gm_X6_heard : ma_gM M_X6_heard = true := by decide +kernel
set_option maxRecDepth 100000 in
theorem gi_X1_heardOf : ma_gI prog M_X1_heardOf = true := by decide +kernel
set_option maxRecDepth 100000 in
theorem gc_X1_heardOf : mx_cw M_X1_heardOf.y M_X1_heardOf.cc M_X1_heardOf.nL M_X1_heardOf.ret M_X1_heardOf.hs ∈ lw_tbl := List.mem_of_getElem? (i := 213) rfl
set_option maxRecDepth 100000 in
theorem gm_X1_heardOf : ma_gM M_X1_heardOf = true := by decide +kernel
set_option maxRecDepth 100000 in
theorem gi_X6_entry : ma_gI prog M_X6_entry = true := by decide +kernel
set_option maxRecDepth 100000 in
theorem gc_X6_entry : mx_cw M_X6_entry.y M_X6_entry.cc M_X6_entry.nL M_X6_entry.ret M_X6_entry.hs ∈ lw_tbl := List.mem_of_getElem? (i := 217) rfl
set_option maxRecDepth 100000 in
theorem gm_X6_entry : ma_gM M_X6_entry = true := by decide +kernel
set_option maxRecDepth 100000 in
theorem gi_X0_kindOf : ma_gI prog M_X0_kindOf = true := by decide +kernel
set_option maxRecDepth 100000 in
theorem gc_X0_kindOf : mx_cw M_X0_kindOf.y M_X0_kindOf.cc M_X0_kindOf.nL M_X0_kindOf.ret M_X0_kindOf.hs ∈ lw_tbl := List.mem_of_getElem? (i := 221) rfl
set_option maxRecDepth 100000 in
theorem gm_X0_kindOf : ma_gM M_X0_kindOf = true := by decide +kernel
set_option maxRecDepth 100000 in
theorem gi_X0_numberOf : ma_gI prog M_X0_numberOf = true := by decide +kernel
set_option maxRecDepth 100000 in
theorem gc_X0_numberOf : mx_cw M_X0_numberOf.y M_X0_numberOf.cc M_X0_numberOf.nL M_X0_numberOf.ret M_X0_numberOf.hs ∈ lw_tbl := List.mem_of_getElem? (i := 225) rfl
set_option maxRecDepth 100000 in
theorem gm_X0_numberOf : ma_gM M_X0_numberOf = true := by decide +kernel
set_option maxRecDepth 100000 in
theorem gi_X6_lotList : ma_gI prog M_X6_lotList = true := by decide +kernel
set_option maxRecDepth 100000 in
theorem gc_X6_lotList : mx_cw M_X6_lotList.y M_X6_lotList.cc M_X6_lotList.nL M_X6_lotList.ret M_X6_lotList.hs ∈ lw_tbl := List.mem_of_getElem? (i := 229) rfl
set_option maxRecDepth 100000 in
theorem gm_X6_lotList : ma_gM M_X6_lotList = true := by decide +kernel
set_option maxRecDepth 100000 in
theorem gi_X6_isLot : ma_gI prog M_X6_isLot = true := by decide +kernel
set_option maxRecDepth 100000 in
theorem gc_X6_isLot : mx_cw M_X6_isLot.y M_X6_isLot.cc M_X6_isLot.nL M_X6_isLot.ret M_X6_isLot.hs ∈ lw_tbl := List.mem_of_getElem? (i := 232) rfl
set_option maxRecDepth 100000 in
theorem gm_X6_isLot : ma_gM M_X6_isLot = true := by decide +kernel
set_option maxRecDepth 100000 in
theorem gi_X6_hasUnstruckDose : ma_gI prog M_X6_hasUnstruckDose = true := by decide +kernel
set_option maxRecDepth 100000 in
theorem gc_X6_hasUnstruckDose : mx_cw M_X6_hasUnstruckDose.y M_X6_hasUnstruckDose.cc M_X6_hasUnstruckDose.nL M_X6_hasUnstruckDose.ret M_X6_hasUnstruckDose.hs ∈ lw_tbl := List.mem_of_getElem? (i := 236) rfl
set_option maxRecDepth 100000 in
theorem gm_X6_hasUnstruckDose : ma_gM M_X6_hasUnstruckDose = true := by decide +kernel
set_option maxRecDepth 100000 in
theorem gi_X0_gave : ma_gI prog M_X0_gave = true := by decide +kernel
set_option maxRecDepth 100000 in
theorem gc_X0_gave : mx_cw M_X0_gave.y M_X0_gave.cc M_X0_gave.nL M_X0_gave.ret M_X0_gave.hs ∈ lw_tbl := List.mem_of_getElem? (i := 240) rfl
set_option maxRecDepth 100000 in
theorem gm_X0_gave : ma_gM M_X0_gave = true := by decide +kernel
set_option maxRecDepth 100000 in
theorem gi_X0_isStruck : ma_gI prog M_X0_isStruck = true := by decide +kernel
set_option maxRecDepth 100000 in
theorem gc_X0_isStruck : mx_cw M_X0_isStruck.y M_X0_isStruck.cc M_X0_isStruck.nL M_X0_isStruck.ret M_X0_isStruck.hs ∈ lw_tbl := List.mem_of_getElem? (i := 246) rfl
set_option maxRecDepth 100000 in
theorem gm_X0_isStruck : ma_gM M_X0_isStruck = true := by decide +kernel
set_option maxRecDepth 100000 in
theorem gi_X6_whoIs : ma_gI prog M_X6_whoIs = true := by decide +kernel
set_option maxRecDepth 100000 in
theorem gc_X6_whoIs : mx_cw M_X6_whoIs.y M_X6_whoIs.cc M_X6_whoIs.nL M_X6_whoIs.ret M_X6_whoIs.hs ∈ lw_tbl := List.mem_of_getElem? (i := 250) rfl
set_option maxRecDepth 100000 in
theorem gm_X6_whoIs : ma_gM M_X6_whoIs = true := by decide +kernel
set_option maxRecDepth 100000 in
theorem gi_X6_isPerson : ma_gI prog M_X6_isPerson = true := by decide +kernel
set_option maxRecDepth 100000 in
theorem gc_X6_isPerson : mx_cw M_X6_isPerson.y M_X6_isPerson.cc M_X6_isPerson.nL M_X6_isPerson.ret M_X6_isPerson.hs ∈ lw_tbl := List.mem_of_getElem? (i := 253) rfl
set_option maxRecDepth 100000 in
theorem gm_X6_isPerson : ma_gM M_X6_isPerson = true := by decide +kernel
set_option maxRecDepth 100000 in
theorem gi_X6_readNames : ma_gI prog M_X6_readNames = true := by decide +kernel
set_option maxRecDepth 100000 in
theorem gc_X6_readNames : mx_cw M_X6_readNames.y M_X6_readNames.cc M_X6_readNames.nL M_X6_readNames.ret M_X6_readNames.hs ∈ lw_tbl := List.mem_of_getElem? (i := 257) rfl
set_option maxRecDepth 100000 in
theorem gm_X6_readNames : ma_gM M_X6_readNames = true := by decide +kernel
set_option maxRecDepth 100000 in
theorem gi_X3_clear : ma_gI prog M_X3_clear = true := by decide +kernel
set_option maxRecDepth 100000 in
theorem gc_X3_clear : mx_cw M_X3_clear.y M_X3_clear.cc M_X3_clear.nL M_X3_clear.ret M_X3_clear.hs ∈ lw_tbl := List.mem_of_getElem? (i := 261) rfl
set_option maxRecDepth 100000 in
theorem gm_X3_clear : ma_gM M_X3_clear = true := by decide +kernel
set_option maxRecDepth 100000 in
theorem gi_X3_join : ma_gI prog M_X3_join = true := by decide +kernel
set_option maxRecDepth 100000 in
theorem gc_X3_join : mx_cw M_X3_join.y M_X3_join.cc M_X3_join.nL M_X3_join.ret M_X3_join.hs ∈ lw_tbl := List.mem_of_getElem? (i := 265) rfl
set_option maxRecDepth 100000 in
theorem gm_X3_join : ma_gM M_X3_join = true := by decide +kernel
set_option maxRecDepth 100000 in
theorem gi_X3_of : ma_gI prog M_X3_of = true := by decide +kernel
set_option maxRecDepth 100000 in
theorem gc_X3_of : mx_cw M_X3_of.y M_X3_of.cc M_X3_of.nL M_X3_of.ret M_X3_of.hs ∈ lw_tbl := List.mem_of_getElem? (i := 269) rfl
set_option maxRecDepth 100000 in
theorem gm_X3_of : ma_gM M_X3_of = true := by decide +kernel
set_option maxRecDepth 100000 in
theorem gi_L_schedule : ma_gI prog M_L_schedule = true := by decide +kernel
set_option maxRecDepth 100000 in
theorem gc_L_schedule : mx_cw M_L_schedule.y M_L_schedule.cc M_L_schedule.nL M_L_schedule.ret M_L_schedule.hs ∈ lw_tbl := List.mem_of_getElem? (i := 280) rfl
set_option maxRecDepth 100000 in
theorem gm_L_schedule : ma_gM M_L_schedule = true := by decide +kernel
set_option maxRecDepth 100000 in
theorem gi_X6_schedule : ma_gI prog M_X6_schedule = true := by decide +kernel
set_option maxRecDepth 100000 in
theorem gc_X6_schedule : mx_cw M_X6_schedule.y M_X6_schedule.cc M_X6_schedule.nL M_X6_schedule.ret M_X6_schedule.hs ∈ lw_tbl := List.mem_of_getElem? (i := 286) rfl
set_option maxRecDepth 100000 in
theorem gm_X6_schedule : ma_gM M_X6_schedule = true := by decide +kernel
set_option maxRecDepth 100000 in
theorem gi_X6_requireVaccine : ma_gI prog M_X6_requireVaccine = true := by decide +kernel
set_option maxRecDepth 100000 in
theorem gc_X6_requireVaccine : mx_cw M_X6_requireVaccine.y M_X6_requireVaccine.cc M_X6_requireVaccine.nL M_X6_requireVaccine.ret M_X6_requireVaccine.hs ∈ lw_tbl := List.mem_of_getElem? (i := 289) rfl
set_option maxRecDepth 100000 in
theorem gm_X6_requireVaccine : ma_gM M_X6_requireVaccine = true := by decide +kernel
set_option maxRecDepth 100000 in
theorem gi_X6_require : ma_gI prog M_X6_require = true := by decide +kernel
set_option maxRecDepth 100000 in
theorem gc_X6_require : mx_cw M_X6_require.y M_X6_require.cc M_X6_require.nL M_X6_require.ret M_X6_require.hs ∈ lw_tbl := List.mem_of_getElem? (i := 292) rfl
set_option maxRecDepth 100000 in
theorem gm_X6_require : ma_gM M_X6_require = true := by decide +kernel
