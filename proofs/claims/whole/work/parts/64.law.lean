/-! the law, case by case -/
set_option maxRecDepth 20000 in
set_option maxHeartbeats 1000000 in
theorem law_schedule {L : Nat} {xs : Nat → Int32} {i C Sx : Nat} {t : Int32} {G : ma_G} {o : Nat → Int64} {o5 o6 o7 : Option Value} (hL : L ≤ 3072) (hi : i + 6 ≤ L) (ret : ∀ (t : Int32) (G : ma_G) (o : Nat → Int64) (o5 o6 o7 : Option Value), INV L xs t G o → Rq 9 M_L_law 1409 [some (.ref 0), some (.ref 1), some (.ref 49), some (.ref 63), some (.int (nI i)), o5, o6, o7] [] G (Qk C Sx QF)) (hI : INV L xs t G o) : Rq 9 M_L_law 132 [some (.ref 0), some (.ref 1), some (.ref 49), some (.ref 63), some (.int (nI i)), o5, o6, o7] [] G (Qk (C + 1) (Sx + 6) QF) := by
  obtain ⟨k, G1, c1, s1, G2, o2, hc1, hs1, hcx, hmid, hcm, hI2⟩ := cmd_schedule hI (xs (i + 1)) (xs (i + 2)) (xs (i + 3)) (xs (i + 4)) (xs (i + 5))
  have hs := inv_s hI
  obtain ⟨fs7, ho7⟩ := hmid.1
  obtain ⟨fs8, ho8⟩ := inv_o7 hI2
  refine rq_st 133 rfl rfl ?_
  refine rq_st 134 rfl rfl ?_
  refine rq_st 136 rfl rfl ?_
  refine rq_ic 137 (nI 1) rfl (by decide) rfl ?_
  refine rq_addN 138 rfl rfl ?_
  refine rq_salN 139 rfl hs (by omega) (by omega) rfl ?_
  refine rq_st 140 rfl rfl ?_
  refine rq_st 142 rfl rfl ?_
  refine rq_ic 143 (nI 2) rfl (by decide) rfl ?_
  refine rq_addN 144 rfl rfl ?_
  refine rq_salN 145 rfl hs (by omega) (by omega) rfl ?_
  refine rq_st 146 rfl rfl ?_
  refine rq_st 148 rfl rfl ?_
  refine rq_ic 149 (nI 3) rfl (by decide) rfl ?_
  refine rq_addN 150 rfl rfl ?_
  refine rq_salN 151 rfl hs (by omega) (by omega) rfl ?_
  refine rq_st 152 rfl rfl ?_
  refine rq_st 154 rfl rfl ?_
  refine rq_ic 155 (nI 4) rfl (by decide) rfl ?_
  refine rq_addN 156 rfl rfl ?_
  refine rq_salN 157 rfl hs (by omega) (by omega) rfl ?_
  refine rq_st 158 rfl rfl ?_
  refine rq_st 160 rfl rfl ?_
  refine rq_ic 161 (nI 5) rfl (by decide) rfl ?_
  refine rq_addN 162 rfl rfl ?_
  refine rq_salN 163 rfl hs (by omega) (by omega) rfl ?_
  refine rk_callv C Sx [_, _, _, _, _, _] _ 166 rfl rfl rfl rfl rfl (Nat.le_of_ble_eq_true rfl) (cats rfl) (rcv_n rfl) hcx rfl (by omega) (by omega) ?_
  refine rq_st 168 rfl rfl ?_
  refine rq_st 169 rfl rfl ?_
  refine rq_st 170 rfl rfl ?_
  refine rq_st 172 rfl rfl ?_
  refine rq_ic 173 (nI 1) rfl (by decide) rfl ?_
  refine rq_addN 174 rfl rfl ?_
  refine rq_salN 175 rfl hmid.2 (by omega) (by omega) rfl ?_
  refine rq_st 176 rfl rfl ?_
  refine rq_st 178 rfl rfl ?_
  refine rq_ic 179 (nI 2) rfl (by decide) rfl ?_
  refine rq_addN 180 rfl rfl ?_
  refine rq_salN 181 rfl hmid.2 (by omega) (by omega) rfl ?_
  refine rq_st 182 rfl rfl ?_
  refine rq_st 184 rfl rfl ?_
  refine rq_ic 185 (nI 3) rfl (by decide) rfl ?_
  refine rq_addN 186 rfl rfl ?_
  refine rq_salN 187 rfl hmid.2 (by omega) (by omega) rfl ?_
  refine rq_st 188 rfl rfl ?_
  refine rq_st 190 rfl rfl ?_
  refine rq_ic 191 (nI 4) rfl (by decide) rfl ?_
  refine rq_addN 192 rfl rfl ?_
  refine rq_salN 193 rfl hmid.2 (by omega) (by omega) rfl ?_
  refine rq_st 194 rfl rfl ?_
  refine rq_st 196 rfl rfl ?_
  refine rq_ic 197 (nI 5) rfl (by decide) rfl ?_
  refine rq_addN 198 rfl rfl ?_
  refine rq_salN 199 rfl hmid.2 (by omega) (by omega) rfl ?_
  refine rq_call [_, _, _, _, _, _] _ 202 rfl rfl rfl rfl rfl (Nat.le_of_ble_eq_true rfl) (cats rfl) (rcv_s rfl ho7) hcm rfl ?_
  refine rq_st 203 rfl rfl ?_
  refine rq_call [_] _ 206 rfl rfl rfl rfl rfl (Nat.le_of_ble_eq_true rfl) (cats rfl) (rcv_s rfl ho8) (inv_thr hI2) rfl ?_
  refine rq_st 208 rfl rfl ?_
  refine rq_cmpt rfl (ma_cmpI.mpr rfl) ?_
  refine rq_st 1409 rfl rfl ?_
  exact ret _ _ _ _ _ _ hI2
set_option maxRecDepth 20000 in
set_option maxHeartbeats 1000000 in
theorem law_dose {L : Nat} {xs : Nat → Int32} {i C Sx : Nat} {t : Int32} {G : ma_G} {o : Nat → Int64} {o5 o6 o7 : Option Value} (hL : L ≤ 3072) (hi : i + 6 ≤ L) (ret : ∀ (t : Int32) (G : ma_G) (o : Nat → Int64) (o5 o6 o7 : Option Value), INV L xs t G o → Rq 9 M_L_law 1409 [some (.ref 0), some (.ref 1), some (.ref 49), some (.ref 63), some (.int (nI i)), o5, o6, o7] [] G (Qk C Sx QF)) (hI : INV L xs t G o) : Rq 9 M_L_law 216 [some (.ref 0), some (.ref 1), some (.ref 49), some (.ref 63), some (.int (nI i)), o5, o6, o7] [] G (Qk (C + 1) (Sx + 6) QF) := by
  obtain ⟨k, b, G1, c1, s1, G2, o2, hc1, hs1, hcx, hmid, hcm, hI2, hk⟩ := cmd_dose hI (xs (i + 1)) (xs (i + 2)) (xs (i + 3)) (xs (i + 4)) (xs (i + 5))
  have hs := inv_s hI
  obtain ⟨fs7, ho7⟩ := hmid.1
  obtain ⟨fs8, ho8⟩ := inv_o7 hI2
  refine rq_st 217 rfl rfl ?_
  refine rq_st 218 rfl rfl ?_
  refine rq_st 220 rfl rfl ?_
  refine rq_ic 221 (nI 1) rfl (by decide) rfl ?_
  refine rq_addN 222 rfl rfl ?_
  refine rq_salN 223 rfl hs (by omega) (by omega) rfl ?_
  refine rq_st 224 rfl rfl ?_
  refine rq_st 226 rfl rfl ?_
  refine rq_ic 227 (nI 2) rfl (by decide) rfl ?_
  refine rq_addN 228 rfl rfl ?_
  refine rq_salN 229 rfl hs (by omega) (by omega) rfl ?_
  refine rq_st 230 rfl rfl ?_
  refine rq_st 232 rfl rfl ?_
  refine rq_ic 233 (nI 3) rfl (by decide) rfl ?_
  refine rq_addN 234 rfl rfl ?_
  refine rq_salN 235 rfl hs (by omega) (by omega) rfl ?_
  refine rq_st 236 rfl rfl ?_
  refine rq_st 238 rfl rfl ?_
  refine rq_ic 239 (nI 4) rfl (by decide) rfl ?_
  refine rq_addN 240 rfl rfl ?_
  refine rq_salN 241 rfl hs (by omega) (by omega) rfl ?_
  refine rq_st 242 rfl rfl ?_
  refine rq_st 244 rfl rfl ?_
  refine rq_ic 245 (nI 5) rfl (by decide) rfl ?_
  refine rq_addN 246 rfl rfl ?_
  refine rq_salN 247 rfl hs (by omega) (by omega) rfl ?_
  refine rq_st 248 rfl rfl ?_
  refine rk_callv C Sx [_, _, _, _, _, _, _] _ 251 rfl rfl rfl rfl rfl (Nat.le_of_ble_eq_true rfl) (cats rfl) (rcv_n rfl) hcx rfl (by omega) (by omega) ?_
  refine rq_st 253 rfl rfl ?_
  refine rq_st 254 rfl rfl ?_
  refine rq_st 255 rfl rfl ?_
  refine rq_st 257 rfl rfl ?_
  refine rq_ic 258 (nI 1) rfl (by decide) rfl ?_
  refine rq_addN 259 rfl rfl ?_
  refine rq_salN 260 rfl hmid.2 (by omega) (by omega) rfl ?_
  refine rq_st 261 rfl rfl ?_
  refine rq_st 263 rfl rfl ?_
  refine rq_ic 264 (nI 2) rfl (by decide) rfl ?_
  refine rq_addN 265 rfl rfl ?_
  refine rq_salN 266 rfl hmid.2 (by omega) (by omega) rfl ?_
  refine rq_st 267 rfl rfl ?_
  refine rq_st 269 rfl rfl ?_
  refine rq_ic 270 (nI 3) rfl (by decide) rfl ?_
  refine rq_addN 271 rfl rfl ?_
  refine rq_salN 272 rfl hmid.2 (by omega) (by omega) rfl ?_
  refine rq_st 273 rfl rfl ?_
  refine rq_st 275 rfl rfl ?_
  refine rq_ic 276 (nI 4) rfl (by decide) rfl ?_
  refine rq_addN 277 rfl rfl ?_
  refine rq_salN 278 rfl hmid.2 (by omega) (by omega) rfl ?_
  refine rq_st 279 rfl rfl ?_
  refine rq_st 281 rfl rfl ?_
  refine rq_ic 282 (nI 5) rfl (by decide) rfl ?_
  refine rq_addN 283 rfl rfl ?_
  refine rq_salN 284 rfl hmid.2 (by omega) (by omega) rfl ?_
  refine rq_call [_, _, _, _, _, _] _ 287 rfl rfl rfl rfl rfl (Nat.le_of_ble_eq_true rfl) (cats rfl) (rcv_s rfl ho7) hcm rfl ?_
  refine rq_st 289 rfl rfl ?_
  refine rq_st 290 rfl rfl ?_
  refine rq_call [_] _ 293 rfl rfl rfl rfl rfl (Nat.le_of_ble_eq_true rfl) (cats rfl) (rcv_s rfl ho8) (inv_thr hI2) rfl ?_
  refine rq_st 295 rfl rfl ?_
  refine rq_cmpt rfl (ma_cmpI.mpr rfl) ?_
  refine rq_st 302 rfl rfl ?_
  refine rq_ifI 305 rfl rfl (fun hz => ?_) (fun hz => ?_)
  · dsimp only [cI] at hz
    refine rq_st 1409 rfl rfl ?_
    exact ret _ _ _ _ _ _ hI2
  · dsimp only [cI] at hz
    refine rq_st 306 rfl rfl ?_
    refine rq_ic 307 (nI 0) rfl (by decide) rfl ?_
    refine rq_lalN 308 rfl (inv_out hI2) (by decide) (by decide) rfl ?_
    rw [hk (Classical.byContradiction hz)]
    refine rq_st 310 rfl rfl ?_
    refine rq_st 311 rfl rfl ?_
    refine rq_st 312 rfl rfl ?_
    refine rq_ift rfl (lg_z _) ?_
    refine rq_st 1409 rfl rfl ?_
    exact ret _ _ _ _ _ _ hI2
set_option maxRecDepth 20000 in
set_option maxHeartbeats 1000000 in
theorem law_strike {L : Nat} {xs : Nat → Int32} {i C Sx : Nat} {t : Int32} {G : ma_G} {o : Nat → Int64} {o5 o6 o7 : Option Value} (hL : L ≤ 3072) (hi : i + 6 ≤ L) (ret : ∀ (t : Int32) (G : ma_G) (o : Nat → Int64) (o5 o6 o7 : Option Value), INV L xs t G o → Rq 9 M_L_law 1409 [some (.ref 0), some (.ref 1), some (.ref 49), some (.ref 63), some (.int (nI i)), o5, o6, o7] [] G (Qk C Sx QF)) (hI : INV L xs t G o) : Rq 9 M_L_law 320 [some (.ref 0), some (.ref 1), some (.ref 49), some (.ref 63), some (.int (nI i)), o5, o6, o7] [] G (Qk (C + 1) (Sx + 6) QF) := by
  obtain ⟨k, b, G1, c1, s1, G2, o2, hc1, hs1, hcx, hmid, hcm, hI2, hk⟩ := cmd_strike hI (xs (i + 1)) (xs (i + 2))
  have hs := inv_s hI
  obtain ⟨fs7, ho7⟩ := hmid.1
  obtain ⟨fs8, ho8⟩ := inv_o7 hI2
  refine rq_st 321 rfl rfl ?_
  refine rq_st 322 rfl rfl ?_
  refine rq_st 324 rfl rfl ?_
  refine rq_ic 325 (nI 1) rfl (by decide) rfl ?_
  refine rq_addN 326 rfl rfl ?_
  refine rq_salN 327 rfl hs (by omega) (by omega) rfl ?_
  refine rq_st 328 rfl rfl ?_
  refine rq_st 330 rfl rfl ?_
  refine rq_ic 331 (nI 2) rfl (by decide) rfl ?_
  refine rq_addN 332 rfl rfl ?_
  refine rq_salN 333 rfl hs (by omega) (by omega) rfl ?_
  refine rq_st 334 rfl rfl ?_
  refine rk_callv C Sx [_, _, _, _] _ 337 rfl rfl rfl rfl rfl (Nat.le_of_ble_eq_true rfl) (cats rfl) (rcv_n rfl) hcx rfl (by omega) (by omega) ?_
  refine rq_st 339 rfl rfl ?_
  refine rq_st 340 rfl rfl ?_
  refine rq_st 341 rfl rfl ?_
  refine rq_st 343 rfl rfl ?_
  refine rq_ic 344 (nI 1) rfl (by decide) rfl ?_
  refine rq_addN 345 rfl rfl ?_
  refine rq_salN 346 rfl hmid.2 (by omega) (by omega) rfl ?_
  refine rq_st 347 rfl rfl ?_
  refine rq_st 349 rfl rfl ?_
  refine rq_ic 350 (nI 2) rfl (by decide) rfl ?_
  refine rq_addN 351 rfl rfl ?_
  refine rq_salN 352 rfl hmid.2 (by omega) (by omega) rfl ?_
  refine rq_call [_, _, _] _ 355 rfl rfl rfl rfl rfl (Nat.le_of_ble_eq_true rfl) (cats rfl) (rcv_s rfl ho7) hcm rfl ?_
  refine rq_st 357 rfl rfl ?_
  refine rq_st 358 rfl rfl ?_
  refine rq_call [_] _ 361 rfl rfl rfl rfl rfl (Nat.le_of_ble_eq_true rfl) (cats rfl) (rcv_s rfl ho8) (inv_thr hI2) rfl ?_
  refine rq_st 363 rfl rfl ?_
  refine rq_cmpt rfl (ma_cmpI.mpr rfl) ?_
  refine rq_st 370 rfl rfl ?_
  refine rq_ifI 373 rfl rfl (fun hz => ?_) (fun hz => ?_)
  · dsimp only [cI] at hz
    refine rq_st 1409 rfl rfl ?_
    exact ret _ _ _ _ _ _ hI2
  · dsimp only [cI] at hz
    refine rq_st 374 rfl rfl ?_
    refine rq_ic 375 (nI 0) rfl (by decide) rfl ?_
    refine rq_lalN 376 rfl (inv_out hI2) (by decide) (by decide) rfl ?_
    rw [hk (Classical.byContradiction hz)]
    refine rq_st 378 rfl rfl ?_
    refine rq_st 379 rfl rfl ?_
    refine rq_st 380 rfl rfl ?_
    refine rq_ift rfl (lg_z _) ?_
    refine rq_st 1409 rfl rfl ?_
    exact ret _ _ _ _ _ _ hI2
set_option maxRecDepth 20000 in
set_option maxHeartbeats 1000000 in
theorem law_recall {L : Nat} {xs : Nat → Int32} {i C Sx : Nat} {t : Int32} {G : ma_G} {o : Nat → Int64} {o5 o6 o7 : Option Value} (hL : L ≤ 3072) (hi : i + 6 ≤ L) (ret : ∀ (t : Int32) (G : ma_G) (o : Nat → Int64) (o5 o6 o7 : Option Value), INV L xs t G o → Rq 9 M_L_law 1409 [some (.ref 0), some (.ref 1), some (.ref 49), some (.ref 63), some (.int (nI i)), o5, o6, o7] [] G (Qk C Sx QF)) (hI : INV L xs t G o) : Rq 9 M_L_law 388 [some (.ref 0), some (.ref 1), some (.ref 49), some (.ref 63), some (.int (nI i)), o5, o6, o7] [] G (Qk (C + 1) (Sx + 6) QF) := by
  obtain ⟨k, b, G1, c1, s1, G2, o2, hc1, hs1, hcx, hmid, hcm, hI2, hk⟩ := cmd_recall hI (xs (i + 1)) (xs (i + 2)) (xs (i + 3)) (xs (i + 4))
  have hs := inv_s hI
  obtain ⟨fs7, ho7⟩ := hmid.1
  obtain ⟨fs8, ho8⟩ := inv_o7 hI2
  refine rq_st 389 rfl rfl ?_
  refine rq_st 390 rfl rfl ?_
  refine rq_st 392 rfl rfl ?_
  refine rq_ic 393 (nI 1) rfl (by decide) rfl ?_
  refine rq_addN 394 rfl rfl ?_
  refine rq_salN 395 rfl hs (by omega) (by omega) rfl ?_
  refine rq_st 396 rfl rfl ?_
  refine rq_st 398 rfl rfl ?_
  refine rq_ic 399 (nI 2) rfl (by decide) rfl ?_
  refine rq_addN 400 rfl rfl ?_
  refine rq_salN 401 rfl hs (by omega) (by omega) rfl ?_
  refine rq_st 402 rfl rfl ?_
  refine rq_st 404 rfl rfl ?_
  refine rq_ic 405 (nI 3) rfl (by decide) rfl ?_
  refine rq_addN 406 rfl rfl ?_
  refine rq_salN 407 rfl hs (by omega) (by omega) rfl ?_
  refine rq_st 408 rfl rfl ?_
  refine rq_st 410 rfl rfl ?_
  refine rq_ic 411 (nI 4) rfl (by decide) rfl ?_
  refine rq_addN 412 rfl rfl ?_
  refine rq_salN 413 rfl hs (by omega) (by omega) rfl ?_
  refine rq_st 414 rfl rfl ?_
  refine rk_callv C Sx [_, _, _, _, _, _] _ 417 rfl rfl rfl rfl rfl (Nat.le_of_ble_eq_true rfl) (cats rfl) (rcv_n rfl) hcx rfl (by omega) (by omega) ?_
  refine rq_st 419 rfl rfl ?_
  refine rq_st 420 rfl rfl ?_
  refine rq_st 421 rfl rfl ?_
  refine rq_st 423 rfl rfl ?_
  refine rq_ic 424 (nI 1) rfl (by decide) rfl ?_
  refine rq_addN 425 rfl rfl ?_
  refine rq_salN 426 rfl hmid.2 (by omega) (by omega) rfl ?_
  refine rq_st 427 rfl rfl ?_
  refine rq_st 429 rfl rfl ?_
  refine rq_ic 430 (nI 2) rfl (by decide) rfl ?_
  refine rq_addN 431 rfl rfl ?_
  refine rq_salN 432 rfl hmid.2 (by omega) (by omega) rfl ?_
  refine rq_st 433 rfl rfl ?_
  refine rq_st 435 rfl rfl ?_
  refine rq_ic 436 (nI 3) rfl (by decide) rfl ?_
  refine rq_addN 437 rfl rfl ?_
  refine rq_salN 438 rfl hmid.2 (by omega) (by omega) rfl ?_
  refine rq_st 439 rfl rfl ?_
  refine rq_st 441 rfl rfl ?_
  refine rq_ic 442 (nI 4) rfl (by decide) rfl ?_
  refine rq_addN 443 rfl rfl ?_
  refine rq_salN 444 rfl hmid.2 (by omega) (by omega) rfl ?_
  refine rq_call [_, _, _, _, _] _ 447 rfl rfl rfl rfl rfl (Nat.le_of_ble_eq_true rfl) (cats rfl) (rcv_s rfl ho7) hcm rfl ?_
  refine rq_st 449 rfl rfl ?_
  refine rq_st 450 rfl rfl ?_
  refine rq_call [_] _ 453 rfl rfl rfl rfl rfl (Nat.le_of_ble_eq_true rfl) (cats rfl) (rcv_s rfl ho8) (inv_thr hI2) rfl ?_
  refine rq_st 455 rfl rfl ?_
  refine rq_cmpt rfl (ma_cmpI.mpr rfl) ?_
  refine rq_st 462 rfl rfl ?_
  refine rq_ifI 465 rfl rfl (fun hz => ?_) (fun hz => ?_)
  · dsimp only [cI] at hz
    refine rq_st 1409 rfl rfl ?_
    exact ret _ _ _ _ _ _ hI2
  · dsimp only [cI] at hz
    refine rq_st 466 rfl rfl ?_
    refine rq_ic 467 (nI 0) rfl (by decide) rfl ?_
    refine rq_lalN 468 rfl (inv_out hI2) (by decide) (by decide) rfl ?_
    rw [hk (Classical.byContradiction hz)]
    refine rq_st 470 rfl rfl ?_
    refine rq_st 471 rfl rfl ?_
    refine rq_st 472 rfl rfl ?_
    refine rq_ift rfl (lg_z _) ?_
    refine rq_st 1409 rfl rfl ?_
    exact ret _ _ _ _ _ _ hI2
set_option maxRecDepth 20000 in
set_option maxHeartbeats 1000000 in
theorem law_same {L : Nat} {xs : Nat → Int32} {i C Sx : Nat} {t : Int32} {G : ma_G} {o : Nat → Int64} {o5 o6 o7 : Option Value} (hL : L ≤ 3072) (hi : i + 6 ≤ L) (ret : ∀ (t : Int32) (G : ma_G) (o : Nat → Int64) (o5 o6 o7 : Option Value), INV L xs t G o → Rq 9 M_L_law 1409 [some (.ref 0), some (.ref 1), some (.ref 49), some (.ref 63), some (.int (nI i)), o5, o6, o7] [] G (Qk C Sx QF)) (hI : INV L xs t G o) : Rq 9 M_L_law 480 [some (.ref 0), some (.ref 1), some (.ref 49), some (.ref 63), some (.int (nI i)), o5, o6, o7] [] G (Qk (C + 1) (Sx + 6) QF) := by
  obtain ⟨k, b, G1, c1, s1, G2, o2, hc1, hs1, hcx, hmid, hcm, hI2, hk⟩ := cmd_same hI (xs (i + 1)) (xs (i + 2)) (xs (i + 3))
  have hs := inv_s hI
  obtain ⟨fs7, ho7⟩ := hmid.1
  obtain ⟨fs8, ho8⟩ := inv_o7 hI2
  refine rq_st 481 rfl rfl ?_
  refine rq_st 482 rfl rfl ?_
  refine rq_st 484 rfl rfl ?_
  refine rq_ic 485 (nI 1) rfl (by decide) rfl ?_
  refine rq_addN 486 rfl rfl ?_
  refine rq_salN 487 rfl hs (by omega) (by omega) rfl ?_
  refine rq_st 488 rfl rfl ?_
  refine rq_st 490 rfl rfl ?_
  refine rq_ic 491 (nI 2) rfl (by decide) rfl ?_
  refine rq_addN 492 rfl rfl ?_
  refine rq_salN 493 rfl hs (by omega) (by omega) rfl ?_
  refine rq_st 494 rfl rfl ?_
  refine rq_st 496 rfl rfl ?_
  refine rq_ic 497 (nI 3) rfl (by decide) rfl ?_
  refine rq_addN 498 rfl rfl ?_
  refine rq_salN 499 rfl hs (by omega) (by omega) rfl ?_
  refine rq_st 500 rfl rfl ?_
  refine rk_callv C Sx [_, _, _, _, _] _ 503 rfl rfl rfl rfl rfl (Nat.le_of_ble_eq_true rfl) (cats rfl) (rcv_n rfl) hcx rfl (by omega) (by omega) ?_
  refine rq_st 505 rfl rfl ?_
  refine rq_st 506 rfl rfl ?_
  refine rq_st 507 rfl rfl ?_
  refine rq_st 509 rfl rfl ?_
  refine rq_ic 510 (nI 1) rfl (by decide) rfl ?_
  refine rq_addN 511 rfl rfl ?_
  refine rq_salN 512 rfl hmid.2 (by omega) (by omega) rfl ?_
  refine rq_st 513 rfl rfl ?_
  refine rq_st 515 rfl rfl ?_
  refine rq_ic 516 (nI 2) rfl (by decide) rfl ?_
  refine rq_addN 517 rfl rfl ?_
  refine rq_salN 518 rfl hmid.2 (by omega) (by omega) rfl ?_
  refine rq_st 519 rfl rfl ?_
  refine rq_st 521 rfl rfl ?_
  refine rq_ic 522 (nI 3) rfl (by decide) rfl ?_
  refine rq_addN 523 rfl rfl ?_
  refine rq_salN 524 rfl hmid.2 (by omega) (by omega) rfl ?_
  refine rq_call [_, _, _, _] _ 527 rfl rfl rfl rfl rfl (Nat.le_of_ble_eq_true rfl) (cats rfl) (rcv_s rfl ho7) hcm rfl ?_
  refine rq_st 529 rfl rfl ?_
  refine rq_st 530 rfl rfl ?_
  refine rq_call [_] _ 533 rfl rfl rfl rfl rfl (Nat.le_of_ble_eq_true rfl) (cats rfl) (rcv_s rfl ho8) (inv_thr hI2) rfl ?_
  refine rq_st 535 rfl rfl ?_
  refine rq_cmpt rfl (ma_cmpI.mpr rfl) ?_
  refine rq_st 542 rfl rfl ?_
  refine rq_ifI 545 rfl rfl (fun hz => ?_) (fun hz => ?_)
  · dsimp only [cI] at hz
    refine rq_st 1409 rfl rfl ?_
    exact ret _ _ _ _ _ _ hI2
  · dsimp only [cI] at hz
    refine rq_st 546 rfl rfl ?_
    refine rq_ic 547 (nI 0) rfl (by decide) rfl ?_
    refine rq_lalN 548 rfl (inv_out hI2) (by decide) (by decide) rfl ?_
    rw [hk (Classical.byContradiction hz)]
    refine rq_st 550 rfl rfl ?_
    refine rq_st 551 rfl rfl ?_
    refine rq_st 552 rfl rfl ?_
    refine rq_ift rfl (lg_z _) ?_
    refine rq_st 1409 rfl rfl ?_
    exact ret _ _ _ _ _ _ hI2
set_option maxRecDepth 20000 in
set_option maxHeartbeats 1000000 in
theorem law_write {L : Nat} {xs : Nat → Int32} {i C Sx : Nat} {t : Int32} {G : ma_G} {o : Nat → Int64} {o5 o6 o7 : Option Value} (hL : L ≤ 3072) (hi : i + 6 ≤ L) (ret : ∀ (t : Int32) (G : ma_G) (o : Nat → Int64) (o5 o6 o7 : Option Value), INV L xs t G o → Rq 9 M_L_law 1409 [some (.ref 0), some (.ref 1), some (.ref 49), some (.ref 63), some (.int (nI i)), o5, o6, o7] [] G (Qk C Sx QF)) (hI : INV L xs t G o) : Rq 9 M_L_law 560 [some (.ref 0), some (.ref 1), some (.ref 49), some (.ref 63), some (.int (nI i)), o5, o6, o7] [] G (Qk (C + 1) (Sx + 6) QF) := by
  obtain ⟨k, b, G1, c1, s1, G2, o2, hc1, hs1, hcx, hmid, hcm, hI2, hk⟩ := cmd_write hI (xs (i + 1)) (xs (i + 2))
  have hs := inv_s hI
  obtain ⟨fs7, ho7⟩ := hmid.1
  obtain ⟨fs8, ho8⟩ := inv_o7 hI2
  refine rq_st 561 rfl rfl ?_
  refine rq_st 562 rfl rfl ?_
  refine rq_st 564 rfl rfl ?_
  refine rq_ic 565 (nI 1) rfl (by decide) rfl ?_
  refine rq_addN 566 rfl rfl ?_
  refine rq_salN 567 rfl hs (by omega) (by omega) rfl ?_
  refine rq_st 568 rfl rfl ?_
  refine rq_st 570 rfl rfl ?_
  refine rq_ic 571 (nI 2) rfl (by decide) rfl ?_
  refine rq_addN 572 rfl rfl ?_
  refine rq_salN 573 rfl hs (by omega) (by omega) rfl ?_
  refine rq_st 574 rfl rfl ?_
  refine rk_callv C Sx [_, _, _, _] _ 577 rfl rfl rfl rfl rfl (Nat.le_of_ble_eq_true rfl) (cats rfl) (rcv_n rfl) hcx rfl (by omega) (by omega) ?_
  refine rq_st 579 rfl rfl ?_
  refine rq_st 580 rfl rfl ?_
  refine rq_st 581 rfl rfl ?_
  refine rq_st 583 rfl rfl ?_
  refine rq_ic 584 (nI 1) rfl (by decide) rfl ?_
  refine rq_addN 585 rfl rfl ?_
  refine rq_salN 586 rfl hmid.2 (by omega) (by omega) rfl ?_
  refine rq_st 587 rfl rfl ?_
  refine rq_st 589 rfl rfl ?_
  refine rq_ic 590 (nI 2) rfl (by decide) rfl ?_
  refine rq_addN 591 rfl rfl ?_
  refine rq_salN 592 rfl hmid.2 (by omega) (by omega) rfl ?_
  refine rq_call [_, _, _] _ 595 rfl rfl rfl rfl rfl (Nat.le_of_ble_eq_true rfl) (cats rfl) (rcv_s rfl ho7) hcm rfl ?_
  refine rq_st 597 rfl rfl ?_
  refine rq_st 598 rfl rfl ?_
  refine rq_call [_] _ 601 rfl rfl rfl rfl rfl (Nat.le_of_ble_eq_true rfl) (cats rfl) (rcv_s rfl ho8) (inv_thr hI2) rfl ?_
  refine rq_st 603 rfl rfl ?_
  refine rq_cmpt rfl (ma_cmpI.mpr rfl) ?_
  refine rq_st 610 rfl rfl ?_
  refine rq_ifI 613 rfl rfl (fun hz => ?_) (fun hz => ?_)
  · dsimp only [cI] at hz
    refine rq_st 1409 rfl rfl ?_
    exact ret _ _ _ _ _ _ hI2
  · dsimp only [cI] at hz
    refine rq_st 614 rfl rfl ?_
    refine rq_ic 615 (nI 0) rfl (by decide) rfl ?_
    refine rq_lalN 616 rfl (inv_out hI2) (by decide) (by decide) rfl ?_
    rw [hk (Classical.byContradiction hz)]
    refine rq_st 618 rfl rfl ?_
    refine rq_st 619 rfl rfl ?_
    refine rq_st 620 rfl rfl ?_
    refine rq_ift rfl (lg_z _) ?_
    refine rq_st 1409 rfl rfl ?_
    exact ret _ _ _ _ _ _ hI2
set_option maxRecDepth 20000 in
set_option maxHeartbeats 1000000 in
theorem law_tear {L : Nat} {xs : Nat → Int32} {i C Sx : Nat} {t : Int32} {G : ma_G} {o : Nat → Int64} {o5 o6 o7 : Option Value} (hL : L ≤ 3072) (hi : i + 6 ≤ L) (ret : ∀ (t : Int32) (G : ma_G) (o : Nat → Int64) (o5 o6 o7 : Option Value), INV L xs t G o → Rq 9 M_L_law 1409 [some (.ref 0), some (.ref 1), some (.ref 49), some (.ref 63), some (.int (nI i)), o5, o6, o7] [] G (Qk C Sx QF)) (hI : INV L xs t G o) : Rq 9 M_L_law 628 [some (.ref 0), some (.ref 1), some (.ref 49), some (.ref 63), some (.int (nI i)), o5, o6, o7] [] G (Qk (C + 1) (Sx + 6) QF) := by
  obtain ⟨k, b, G1, c1, s1, G2, o2, hc1, hs1, hcx, hmid, hcm, hI2, hk⟩ := cmd_tear hI (xs (i + 1)) (xs (i + 2))
  have hs := inv_s hI
  obtain ⟨fs7, ho7⟩ := hmid.1
  obtain ⟨fs8, ho8⟩ := inv_o7 hI2
  refine rq_st 629 rfl rfl ?_
  refine rq_st 630 rfl rfl ?_
  refine rq_st 632 rfl rfl ?_
  refine rq_ic 633 (nI 1) rfl (by decide) rfl ?_
  refine rq_addN 634 rfl rfl ?_
  refine rq_salN 635 rfl hs (by omega) (by omega) rfl ?_
  refine rq_st 636 rfl rfl ?_
  refine rq_st 638 rfl rfl ?_
  refine rq_ic 639 (nI 2) rfl (by decide) rfl ?_
  refine rq_addN 640 rfl rfl ?_
  refine rq_salN 641 rfl hs (by omega) (by omega) rfl ?_
  refine rq_st 642 rfl rfl ?_
  refine rk_callv C Sx [_, _, _, _] _ 645 rfl rfl rfl rfl rfl (Nat.le_of_ble_eq_true rfl) (cats rfl) (rcv_n rfl) hcx rfl (by omega) (by omega) ?_
  refine rq_st 647 rfl rfl ?_
  refine rq_st 648 rfl rfl ?_
  refine rq_st 649 rfl rfl ?_
  refine rq_st 651 rfl rfl ?_
  refine rq_ic 652 (nI 1) rfl (by decide) rfl ?_
  refine rq_addN 653 rfl rfl ?_
  refine rq_salN 654 rfl hmid.2 (by omega) (by omega) rfl ?_
  refine rq_st 655 rfl rfl ?_
  refine rq_st 657 rfl rfl ?_
  refine rq_ic 658 (nI 2) rfl (by decide) rfl ?_
  refine rq_addN 659 rfl rfl ?_
  refine rq_salN 660 rfl hmid.2 (by omega) (by omega) rfl ?_
  refine rq_call [_, _, _] _ 663 rfl rfl rfl rfl rfl (Nat.le_of_ble_eq_true rfl) (cats rfl) (rcv_s rfl ho7) hcm rfl ?_
  refine rq_st 665 rfl rfl ?_
  refine rq_st 666 rfl rfl ?_
  refine rq_call [_] _ 669 rfl rfl rfl rfl rfl (Nat.le_of_ble_eq_true rfl) (cats rfl) (rcv_s rfl ho8) (inv_thr hI2) rfl ?_
  refine rq_st 671 rfl rfl ?_
  refine rq_cmpt rfl (ma_cmpI.mpr rfl) ?_
  refine rq_st 678 rfl rfl ?_
  refine rq_ifI 681 rfl rfl (fun hz => ?_) (fun hz => ?_)
  · dsimp only [cI] at hz
    refine rq_st 1409 rfl rfl ?_
    exact ret _ _ _ _ _ _ hI2
  · dsimp only [cI] at hz
    refine rq_st 682 rfl rfl ?_
    refine rq_ic 683 (nI 0) rfl (by decide) rfl ?_
    refine rq_lalN 684 rfl (inv_out hI2) (by decide) (by decide) rfl ?_
    rw [hk (Classical.byContradiction hz)]
    refine rq_st 686 rfl rfl ?_
    refine rq_st 687 rfl rfl ?_
    refine rq_st 688 rfl rfl ?_
    refine rq_ift rfl (lg_z _) ?_
    refine rq_st 1409 rfl rfl ?_
    exact ret _ _ _ _ _ _ hI2
set_option maxRecDepth 20000 in
set_option maxHeartbeats 1000000 in
theorem law_load {L : Nat} {xs : Nat → Int32} {i C Sx : Nat} {t : Int32} {G : ma_G} {o : Nat → Int64} {o5 o6 o7 : Option Value} (hL : L ≤ 3072) (hi : i + 6 ≤ L) (ret : ∀ (t : Int32) (G : ma_G) (o : Nat → Int64) (o5 o6 o7 : Option Value), INV L xs t G o → Rq 9 M_L_law 1409 [some (.ref 0), some (.ref 1), some (.ref 49), some (.ref 63), some (.int (nI i)), o5, o6, o7] [] G (Qk C Sx QF)) (hI : INV L xs t G o) : Rq 9 M_L_law 696 [some (.ref 0), some (.ref 1), some (.ref 49), some (.ref 63), some (.int (nI i)), o5, o6, o7] [] G (Qk (C + 1) (Sx + 6) QF) := by
  obtain ⟨k, b, G1, c1, s1, G2, o2, hc1, hs1, hcx, hmid, hcm, hI2, hk⟩ := cmd_load hI (xs (i + 1)) (xs (i + 2))
  have hs := inv_s hI
  obtain ⟨fs7, ho7⟩ := hmid.1
  obtain ⟨fs8, ho8⟩ := inv_o7 hI2
  refine rq_st 697 rfl rfl ?_
  refine rq_st 698 rfl rfl ?_
  refine rq_st 700 rfl rfl ?_
  refine rq_ic 701 (nI 1) rfl (by decide) rfl ?_
  refine rq_addN 702 rfl rfl ?_
  refine rq_salN 703 rfl hs (by omega) (by omega) rfl ?_
  refine rq_st 704 rfl rfl ?_
  refine rq_st 706 rfl rfl ?_
  refine rq_ic 707 (nI 2) rfl (by decide) rfl ?_
  refine rq_addN 708 rfl rfl ?_
  refine rq_salN 709 rfl hs (by omega) (by omega) rfl ?_
  refine rq_st 710 rfl rfl ?_
  refine rk_callv C Sx [_, _, _, _] _ 713 rfl rfl rfl rfl rfl (Nat.le_of_ble_eq_true rfl) (cats rfl) (rcv_n rfl) hcx rfl (by omega) (by omega) ?_
  refine rq_st 715 rfl rfl ?_
  refine rq_st 716 rfl rfl ?_
  refine rq_st 717 rfl rfl ?_
  refine rq_st 719 rfl rfl ?_
  refine rq_ic 720 (nI 1) rfl (by decide) rfl ?_
  refine rq_addN 721 rfl rfl ?_
  refine rq_salN 722 rfl hmid.2 (by omega) (by omega) rfl ?_
  refine rq_st 723 rfl rfl ?_
  refine rq_st 725 rfl rfl ?_
  refine rq_ic 726 (nI 2) rfl (by decide) rfl ?_
  refine rq_addN 727 rfl rfl ?_
  refine rq_salN 728 rfl hmid.2 (by omega) (by omega) rfl ?_
  refine rq_call [_, _, _] _ 731 rfl rfl rfl rfl rfl (Nat.le_of_ble_eq_true rfl) (cats rfl) (rcv_s rfl ho7) hcm rfl ?_
  refine rq_st 733 rfl rfl ?_
  refine rq_st 734 rfl rfl ?_
  refine rq_call [_] _ 737 rfl rfl rfl rfl rfl (Nat.le_of_ble_eq_true rfl) (cats rfl) (rcv_s rfl ho8) (inv_thr hI2) rfl ?_
  refine rq_st 739 rfl rfl ?_
  refine rq_cmpt rfl (ma_cmpI.mpr rfl) ?_
  refine rq_st 746 rfl rfl ?_
  refine rq_ifI 749 rfl rfl (fun hz => ?_) (fun hz => ?_)
  · dsimp only [cI] at hz
    refine rq_st 1409 rfl rfl ?_
    exact ret _ _ _ _ _ _ hI2
  · dsimp only [cI] at hz
    refine rq_st 750 rfl rfl ?_
    refine rq_ic 751 (nI 0) rfl (by decide) rfl ?_
    refine rq_lalN 752 rfl (inv_out hI2) (by decide) (by decide) rfl ?_
    rw [hk (Classical.byContradiction hz)]
    refine rq_st 754 rfl rfl ?_
    refine rq_st 755 rfl rfl ?_
    refine rq_st 756 rfl rfl ?_
    refine rq_ift rfl (lg_z _) ?_
    refine rq_st 1409 rfl rfl ?_
    exact ret _ _ _ _ _ _ hI2
set_option maxRecDepth 20000 in
set_option maxHeartbeats 1000000 in
theorem law_stick {L : Nat} {xs : Nat → Int32} {i C Sx : Nat} {t : Int32} {G : ma_G} {o : Nat → Int64} {o5 o6 o7 : Option Value} (hL : L ≤ 3072) (hi : i + 6 ≤ L) (ret : ∀ (t : Int32) (G : ma_G) (o : Nat → Int64) (o5 o6 o7 : Option Value), INV L xs t G o → Rq 9 M_L_law 1409 [some (.ref 0), some (.ref 1), some (.ref 49), some (.ref 63), some (.int (nI i)), o5, o6, o7] [] G (Qk C Sx QF)) (hI : INV L xs t G o) : Rq 9 M_L_law 764 [some (.ref 0), some (.ref 1), some (.ref 49), some (.ref 63), some (.int (nI i)), o5, o6, o7] [] G (Qk (C + 1) (Sx + 6) QF) := by
  obtain ⟨v, G1, G2, t2, o2, hcx, hmid, hcm, hI2⟩ := cmd_stick hI (xs (i + 1)) (xs (i + 2))
  have hs := inv_s hI
  obtain ⟨fs7, ho7⟩ := hmid.1
  obtain ⟨fs6, ho6⟩ := inv_o6 hI
  refine rk_mono (Nat.le_succ C) (Nat.le_add_right Sx 6) ?_
  refine rq_st 765 rfl rfl ?_
  refine rq_st 766 rfl rfl ?_
  refine rq_st 768 rfl rfl ?_
  refine rq_ic 769 (nI 1) rfl (by decide) rfl ?_
  refine rq_addN 770 rfl rfl ?_
  refine rq_salN 771 rfl hs (by omega) (by omega) rfl ?_
  refine rq_st 772 rfl rfl ?_
  refine rq_st 774 rfl rfl ?_
  refine rq_ic 775 (nI 2) rfl (by decide) rfl ?_
  refine rq_addN 776 rfl rfl ?_
  refine rq_salN 777 rfl hs (by omega) (by omega) rfl ?_
  refine rq_call [_, _, _] _ 780 rfl rfl rfl rfl rfl (Nat.le_of_ble_eq_true rfl) (cats rfl) (rcv_s rfl ho6) hcx rfl ?_
  refine rq_st 781 rfl rfl ?_
  refine rq_st 782 rfl rfl ?_
  refine rq_st 784 rfl rfl ?_
  refine rq_ic 785 (nI 1) rfl (by decide) rfl ?_
  refine rq_addN 786 rfl rfl ?_
  refine rq_salN 787 rfl hmid.2 (by omega) (by omega) rfl ?_
  refine rq_st 788 rfl rfl ?_
  refine rq_st 790 rfl rfl ?_
  refine rq_ic 791 (nI 2) rfl (by decide) rfl ?_
  refine rq_addN 792 rfl rfl ?_
  refine rq_salN 793 rfl hmid.2 (by omega) (by omega) rfl ?_
  refine rq_call [_, _, _] _ 796 rfl rfl rfl rfl rfl (Nat.le_of_ble_eq_true rfl) (cats rfl) (rcv_s rfl ho7) hcm rfl ?_
  refine rq_cmpt rfl (ma_cmpI.mpr rfl) ?_
  exact ret _ _ _ _ _ _ hI2
set_option maxRecDepth 20000 in
set_option maxHeartbeats 1000000 in
theorem law_known {L : Nat} {xs : Nat → Int32} {i C Sx : Nat} {t : Int32} {G : ma_G} {o : Nat → Int64} {o5 o6 o7 : Option Value} (hL : L ≤ 3072) (hi : i + 6 ≤ L) (ret : ∀ (t : Int32) (G : ma_G) (o : Nat → Int64) (o5 o6 o7 : Option Value), INV L xs t G o → Rq 9 M_L_law 1409 [some (.ref 0), some (.ref 1), some (.ref 49), some (.ref 63), some (.int (nI i)), o5, o6, o7] [] G (Qk C Sx QF)) (hI : INV L xs t G o) : Rq 9 M_L_law 801 [some (.ref 0), some (.ref 1), some (.ref 49), some (.ref 63), some (.int (nI i)), o5, o6, o7] [] G (Qk (C + 1) (Sx + 6) QF) := by
  obtain ⟨v, G1, G2, t2, o2, hcx, hmid, hcm, hI2⟩ := cmd_known hI (xs (i + 1)) (xs (i + 2))
  have hs := inv_s hI
  obtain ⟨fs7, ho7⟩ := hmid.1
  obtain ⟨fs6, ho6⟩ := inv_o6 hI
  refine rk_mono (Nat.le_succ C) (Nat.le_add_right Sx 6) ?_
  refine rq_st 802 rfl rfl ?_
  refine rq_st 803 rfl rfl ?_
  refine rq_st 805 rfl rfl ?_
  refine rq_ic 806 (nI 1) rfl (by decide) rfl ?_
  refine rq_addN 807 rfl rfl ?_
  refine rq_salN 808 rfl hs (by omega) (by omega) rfl ?_
  refine rq_st 809 rfl rfl ?_
  refine rq_st 811 rfl rfl ?_
  refine rq_ic 812 (nI 2) rfl (by decide) rfl ?_
  refine rq_addN 813 rfl rfl ?_
  refine rq_salN 814 rfl hs (by omega) (by omega) rfl ?_
  refine rq_call [_, _, _] _ 817 rfl rfl rfl rfl rfl (Nat.le_of_ble_eq_true rfl) (cats rfl) (rcv_s rfl ho6) hcx rfl ?_
  refine rq_st 818 rfl rfl ?_
  refine rq_st 819 rfl rfl ?_
  refine rq_st 821 rfl rfl ?_
  refine rq_ic 822 (nI 1) rfl (by decide) rfl ?_
  refine rq_addN 823 rfl rfl ?_
  refine rq_salN 824 rfl hmid.2 (by omega) (by omega) rfl ?_
  refine rq_st 825 rfl rfl ?_
  refine rq_st 827 rfl rfl ?_
  refine rq_ic 828 (nI 2) rfl (by decide) rfl ?_
  refine rq_addN 829 rfl rfl ?_
  refine rq_salN 830 rfl hmid.2 (by omega) (by omega) rfl ?_
  refine rq_call [_, _, _] _ 833 rfl rfl rfl rfl rfl (Nat.le_of_ble_eq_true rfl) (cats rfl) (rcv_s rfl ho7) hcm rfl ?_
  refine rq_cmpt rfl (ma_cmpI.mpr rfl) ?_
  exact ret _ _ _ _ _ _ hI2
set_option maxRecDepth 20000 in
set_option maxHeartbeats 1000000 in
theorem law_heard {L : Nat} {xs : Nat → Int32} {i C Sx : Nat} {t : Int32} {G : ma_G} {o : Nat → Int64} {o5 o6 o7 : Option Value} (hL : L ≤ 3072) (hi : i + 6 ≤ L) (ret : ∀ (t : Int32) (G : ma_G) (o : Nat → Int64) (o5 o6 o7 : Option Value), INV L xs t G o → Rq 9 M_L_law 1409 [some (.ref 0), some (.ref 1), some (.ref 49), some (.ref 63), some (.int (nI i)), o5, o6, o7] [] G (Qk C Sx QF)) (hI : INV L xs t G o) : Rq 9 M_L_law 838 [some (.ref 0), some (.ref 1), some (.ref 49), some (.ref 63), some (.int (nI i)), o5, o6, o7] [] G (Qk (C + 1) (Sx + 6) QF) := by
  obtain ⟨v, G1, G2, t2, o2, hcx, hmid, hcm, hI2⟩ := cmd_heard hI (xs (i + 1)) (xs (i + 2)) (xs (i + 3))
  have hs := inv_s hI
  obtain ⟨fs7, ho7⟩ := hmid.1
  obtain ⟨fs6, ho6⟩ := inv_o6 hI
  refine rk_mono (Nat.le_succ C) (Nat.le_add_right Sx 6) ?_
  refine rq_st 839 rfl rfl ?_
  refine rq_st 840 rfl rfl ?_
  refine rq_st 842 rfl rfl ?_
  refine rq_ic 843 (nI 1) rfl (by decide) rfl ?_
  refine rq_addN 844 rfl rfl ?_
  refine rq_salN 845 rfl hs (by omega) (by omega) rfl ?_
  refine rq_st 846 rfl rfl ?_
  refine rq_st 848 rfl rfl ?_
  refine rq_ic 849 (nI 2) rfl (by decide) rfl ?_
  refine rq_addN 850 rfl rfl ?_
  refine rq_salN 851 rfl hs (by omega) (by omega) rfl ?_
  refine rq_st 852 rfl rfl ?_
  refine rq_st 854 rfl rfl ?_
  refine rq_ic 855 (nI 3) rfl (by decide) rfl ?_
  refine rq_addN 856 rfl rfl ?_
  refine rq_salN 857 rfl hs (by omega) (by omega) rfl ?_
  refine rq_call [_, _, _, _] _ 860 rfl rfl rfl rfl rfl (Nat.le_of_ble_eq_true rfl) (cats rfl) (rcv_s rfl ho6) hcx rfl ?_
  refine rq_st 861 rfl rfl ?_
  refine rq_st 862 rfl rfl ?_
  refine rq_st 864 rfl rfl ?_
  refine rq_ic 865 (nI 1) rfl (by decide) rfl ?_
  refine rq_addN 866 rfl rfl ?_
  refine rq_salN 867 rfl hmid.2 (by omega) (by omega) rfl ?_
  refine rq_st 868 rfl rfl ?_
  refine rq_st 870 rfl rfl ?_
  refine rq_ic 871 (nI 2) rfl (by decide) rfl ?_
  refine rq_addN 872 rfl rfl ?_
  refine rq_salN 873 rfl hmid.2 (by omega) (by omega) rfl ?_
  refine rq_st 874 rfl rfl ?_
  refine rq_st 876 rfl rfl ?_
  refine rq_ic 877 (nI 3) rfl (by decide) rfl ?_
  refine rq_addN 878 rfl rfl ?_
  refine rq_salN 879 rfl hmid.2 (by omega) (by omega) rfl ?_
  refine rq_call [_, _, _, _] _ 882 rfl rfl rfl rfl rfl (Nat.le_of_ble_eq_true rfl) (cats rfl) (rcv_s rfl ho7) hcm rfl ?_
  refine rq_cmpt rfl (ma_cmpI.mpr rfl) ?_
  exact ret _ _ _ _ _ _ hI2
set_option maxRecDepth 20000 in
set_option maxHeartbeats 1000000 in
theorem law_entry {L : Nat} {xs : Nat → Int32} {i C Sx : Nat} {t : Int32} {G : ma_G} {o : Nat → Int64} {o5 o6 o7 : Option Value} (hL : L ≤ 3072) (hi : i + 6 ≤ L) (ret : ∀ (t : Int32) (G : ma_G) (o : Nat → Int64) (o5 o6 o7 : Option Value), INV L xs t G o → Rq 9 M_L_law 1409 [some (.ref 0), some (.ref 1), some (.ref 49), some (.ref 63), some (.int (nI i)), o5, o6, o7] [] G (Qk C Sx QF)) (hI : INV L xs t G o) : Rq 9 M_L_law 887 [some (.ref 0), some (.ref 1), some (.ref 49), some (.ref 63), some (.int (nI i)), o5, o6, o7] [] G (Qk (C + 1) (Sx + 6) QF) := by
  obtain ⟨v, G1, G2, t2, o2, hcx, hmid, hcm, hI2⟩ := cmd_entry hI (xs (i + 1)) (xs (i + 2)) (xs (i + 3)) (xs (i + 4))
  have hs := inv_s hI
  obtain ⟨fs7, ho7⟩ := hmid.1
  obtain ⟨fs6, ho6⟩ := inv_o6 hI
  refine rk_mono (Nat.le_succ C) (Nat.le_add_right Sx 6) ?_
  refine rq_st 888 rfl rfl ?_
  refine rq_st 889 rfl rfl ?_
  refine rq_st 891 rfl rfl ?_
  refine rq_ic 892 (nI 1) rfl (by decide) rfl ?_
  refine rq_addN 893 rfl rfl ?_
  refine rq_salN 894 rfl hs (by omega) (by omega) rfl ?_
  refine rq_st 895 rfl rfl ?_
  refine rq_st 897 rfl rfl ?_
  refine rq_ic 898 (nI 2) rfl (by decide) rfl ?_
  refine rq_addN 899 rfl rfl ?_
  refine rq_salN 900 rfl hs (by omega) (by omega) rfl ?_
  refine rq_st 901 rfl rfl ?_
  refine rq_st 903 rfl rfl ?_
  refine rq_ic 904 (nI 3) rfl (by decide) rfl ?_
  refine rq_addN 905 rfl rfl ?_
  refine rq_salN 906 rfl hs (by omega) (by omega) rfl ?_
  refine rq_st 907 rfl rfl ?_
  refine rq_st 909 rfl rfl ?_
  refine rq_ic 910 (nI 4) rfl (by decide) rfl ?_
  refine rq_addN 911 rfl rfl ?_
  refine rq_salN 912 rfl hs (by omega) (by omega) rfl ?_
  refine rq_call [_, _, _, _, _] _ 915 rfl rfl rfl rfl rfl (Nat.le_of_ble_eq_true rfl) (cats rfl) (rcv_s rfl ho6) hcx rfl ?_
  refine rq_st 916 rfl rfl ?_
  refine rq_st 917 rfl rfl ?_
  refine rq_st 919 rfl rfl ?_
  refine rq_ic 920 (nI 1) rfl (by decide) rfl ?_
  refine rq_addN 921 rfl rfl ?_
  refine rq_salN 922 rfl hmid.2 (by omega) (by omega) rfl ?_
  refine rq_st 923 rfl rfl ?_
  refine rq_st 925 rfl rfl ?_
  refine rq_ic 926 (nI 2) rfl (by decide) rfl ?_
  refine rq_addN 927 rfl rfl ?_
  refine rq_salN 928 rfl hmid.2 (by omega) (by omega) rfl ?_
  refine rq_st 929 rfl rfl ?_
  refine rq_st 931 rfl rfl ?_
  refine rq_ic 932 (nI 3) rfl (by decide) rfl ?_
  refine rq_addN 933 rfl rfl ?_
  refine rq_salN 934 rfl hmid.2 (by omega) (by omega) rfl ?_
  refine rq_st 935 rfl rfl ?_
  refine rq_st 937 rfl rfl ?_
  refine rq_ic 938 (nI 4) rfl (by decide) rfl ?_
  refine rq_addN 939 rfl rfl ?_
  refine rq_salN 940 rfl hmid.2 (by omega) (by omega) rfl ?_
  refine rq_call [_, _, _, _, _] _ 943 rfl rfl rfl rfl rfl (Nat.le_of_ble_eq_true rfl) (cats rfl) (rcv_s rfl ho7) hcm rfl ?_
  refine rq_cmpt rfl (ma_cmpI.mpr rfl) ?_
  exact ret _ _ _ _ _ _ hI2
set_option maxRecDepth 20000 in
set_option maxHeartbeats 1000000 in
theorem law_counting {L : Nat} {xs : Nat → Int32} {i C Sx : Nat} {t : Int32} {G : ma_G} {o : Nat → Int64} {o5 o6 o7 : Option Value} (hL : L ≤ 3072) (hi : i + 6 ≤ L) (ret : ∀ (t : Int32) (G : ma_G) (o : Nat → Int64) (o5 o6 o7 : Option Value), INV L xs t G o → Rq 9 M_L_law 1409 [some (.ref 0), some (.ref 1), some (.ref 49), some (.ref 63), some (.int (nI i)), o5, o6, o7] [] G (Qk C Sx QF)) (hI : INV L xs t G o) : Rq 9 M_L_law 948 [some (.ref 0), some (.ref 1), some (.ref 49), some (.ref 63), some (.int (nI i)), o5, o6, o7] [] G (Qk (C + 1) (Sx + 6) QF) := by
  obtain ⟨k, b, G1, c1, s1, G2, o2, hc1, hs1, hcx, hmid, hcm, hI2, hk⟩ := cmd_counting hI (xs (i + 1)) (xs (i + 2)) (xs (i + 3))
  have hs := inv_s hI
  obtain ⟨fs7, ho7⟩ := hmid.1
  obtain ⟨fs8, ho8⟩ := inv_o7 hI2
  refine rq_st 949 rfl rfl ?_
  refine rq_st 950 rfl rfl ?_
  refine rq_st 952 rfl rfl ?_
  refine rq_ic 953 (nI 1) rfl (by decide) rfl ?_
  refine rq_addN 954 rfl rfl ?_
  refine rq_salN 955 rfl hs (by omega) (by omega) rfl ?_
  refine rq_st 956 rfl rfl ?_
  refine rq_st 958 rfl rfl ?_
  refine rq_ic 959 (nI 2) rfl (by decide) rfl ?_
  refine rq_addN 960 rfl rfl ?_
  refine rq_salN 961 rfl hs (by omega) (by omega) rfl ?_
  refine rq_st 962 rfl rfl ?_
  refine rq_st 964 rfl rfl ?_
  refine rq_ic 965 (nI 3) rfl (by decide) rfl ?_
  refine rq_addN 966 rfl rfl ?_
  refine rq_salN 967 rfl hs (by omega) (by omega) rfl ?_
  refine rq_st 968 rfl rfl ?_
  refine rk_callv C Sx [_, _, _, _, _] _ 971 rfl rfl rfl rfl rfl (Nat.le_of_ble_eq_true rfl) (cats rfl) (rcv_n rfl) hcx rfl (by omega) (by omega) ?_
  refine rq_st 973 rfl rfl ?_
  refine rq_st 974 rfl rfl ?_
  refine rq_st 975 rfl rfl ?_
  refine rq_st 977 rfl rfl ?_
  refine rq_ic 978 (nI 1) rfl (by decide) rfl ?_
  refine rq_addN 979 rfl rfl ?_
  refine rq_salN 980 rfl hmid.2 (by omega) (by omega) rfl ?_
  refine rq_st 981 rfl rfl ?_
  refine rq_st 983 rfl rfl ?_
  refine rq_ic 984 (nI 2) rfl (by decide) rfl ?_
  refine rq_addN 985 rfl rfl ?_
  refine rq_salN 986 rfl hmid.2 (by omega) (by omega) rfl ?_
  refine rq_st 987 rfl rfl ?_
  refine rq_st 989 rfl rfl ?_
  refine rq_ic 990 (nI 3) rfl (by decide) rfl ?_
  refine rq_addN 991 rfl rfl ?_
  refine rq_salN 992 rfl hmid.2 (by omega) (by omega) rfl ?_
  refine rq_call [_, _, _, _] _ 995 rfl rfl rfl rfl rfl (Nat.le_of_ble_eq_true rfl) (cats rfl) (rcv_s rfl ho7) hcm rfl ?_
  refine rq_st 997 rfl rfl ?_
  refine rq_st 998 rfl rfl ?_
  refine rq_call [_] _ 1001 rfl rfl rfl rfl rfl (Nat.le_of_ble_eq_true rfl) (cats rfl) (rcv_s rfl ho8) (inv_thr hI2) rfl ?_
  refine rq_st 1003 rfl rfl ?_
  refine rq_cmpt rfl (ma_cmpI.mpr rfl) ?_
  refine rq_st 1010 rfl rfl ?_
  refine rq_ifI 1013 rfl rfl (fun hz => ?_) (fun hz => ?_)
  · dsimp only [cI] at hz
    refine rq_st 1409 rfl rfl ?_
    exact ret _ _ _ _ _ _ hI2
  · dsimp only [cI] at hz
    refine rq_st 1014 rfl rfl ?_
    refine rq_ic 1015 (nI 0) rfl (by decide) rfl ?_
    refine rq_lalN 1016 rfl (inv_out hI2) (by decide) (by decide) rfl ?_
    rw [hk (Classical.byContradiction hz)]
    refine rq_st 1018 rfl rfl ?_
    refine rq_st 1019 rfl rfl ?_
    refine rq_st 1020 rfl rfl ?_
    refine rq_ift rfl (lg_z _) ?_
    refine rq_st 1409 rfl rfl ?_
    exact ret _ _ _ _ _ _ hI2
set_option maxRecDepth 20000 in
set_option maxHeartbeats 1000000 in
theorem law_protectedDay {L : Nat} {xs : Nat → Int32} {i C Sx : Nat} {t : Int32} {G : ma_G} {o : Nat → Int64} {o5 o6 o7 : Option Value} (hL : L ≤ 3072) (hi : i + 6 ≤ L) (ret : ∀ (t : Int32) (G : ma_G) (o : Nat → Int64) (o5 o6 o7 : Option Value), INV L xs t G o → Rq 9 M_L_law 1409 [some (.ref 0), some (.ref 1), some (.ref 49), some (.ref 63), some (.int (nI i)), o5, o6, o7] [] G (Qk C Sx QF)) (hI : INV L xs t G o) : Rq 9 M_L_law 1028 [some (.ref 0), some (.ref 1), some (.ref 49), some (.ref 63), some (.int (nI i)), o5, o6, o7] [] G (Qk (C + 1) (Sx + 6) QF) := by
  obtain ⟨k, b, G1, c1, s1, G2, o2, hc1, hs1, hcx, hmid, hcm, hI2, hk⟩ := cmd_protectedDay hI (xs (i + 1)) (xs (i + 2)) (xs (i + 3))
  have hs := inv_s hI
  obtain ⟨fs7, ho7⟩ := hmid.1
  obtain ⟨fs8, ho8⟩ := inv_o7 hI2
  refine rq_st 1029 rfl rfl ?_
  refine rq_st 1030 rfl rfl ?_
  refine rq_st 1032 rfl rfl ?_
  refine rq_ic 1033 (nI 1) rfl (by decide) rfl ?_
  refine rq_addN 1034 rfl rfl ?_
  refine rq_salN 1035 rfl hs (by omega) (by omega) rfl ?_
  refine rq_st 1036 rfl rfl ?_
  refine rq_st 1038 rfl rfl ?_
  refine rq_ic 1039 (nI 2) rfl (by decide) rfl ?_
  refine rq_addN 1040 rfl rfl ?_
  refine rq_salN 1041 rfl hs (by omega) (by omega) rfl ?_
  refine rq_st 1042 rfl rfl ?_
  refine rq_st 1044 rfl rfl ?_
  refine rq_ic 1045 (nI 3) rfl (by decide) rfl ?_
  refine rq_addN 1046 rfl rfl ?_
  refine rq_salN 1047 rfl hs (by omega) (by omega) rfl ?_
  refine rq_st 1048 rfl rfl ?_
  refine rk_callv C Sx [_, _, _, _, _] _ 1051 rfl rfl rfl rfl rfl (Nat.le_of_ble_eq_true rfl) (cats rfl) (rcv_n rfl) hcx rfl (by omega) (by omega) ?_
  refine rq_st 1053 rfl rfl ?_
  refine rq_st 1054 rfl rfl ?_
  refine rq_st 1055 rfl rfl ?_
  refine rq_st 1057 rfl rfl ?_
  refine rq_ic 1058 (nI 1) rfl (by decide) rfl ?_
  refine rq_addN 1059 rfl rfl ?_
  refine rq_salN 1060 rfl hmid.2 (by omega) (by omega) rfl ?_
  refine rq_st 1061 rfl rfl ?_
  refine rq_st 1063 rfl rfl ?_
  refine rq_ic 1064 (nI 2) rfl (by decide) rfl ?_
  refine rq_addN 1065 rfl rfl ?_
  refine rq_salN 1066 rfl hmid.2 (by omega) (by omega) rfl ?_
  refine rq_st 1067 rfl rfl ?_
  refine rq_st 1069 rfl rfl ?_
  refine rq_ic 1070 (nI 3) rfl (by decide) rfl ?_
  refine rq_addN 1071 rfl rfl ?_
  refine rq_salN 1072 rfl hmid.2 (by omega) (by omega) rfl ?_
  refine rq_call [_, _, _, _] _ 1075 rfl rfl rfl rfl rfl (Nat.le_of_ble_eq_true rfl) (cats rfl) (rcv_s rfl ho7) hcm rfl ?_
  refine rq_st 1077 rfl rfl ?_
  refine rq_st 1078 rfl rfl ?_
  refine rq_call [_] _ 1081 rfl rfl rfl rfl rfl (Nat.le_of_ble_eq_true rfl) (cats rfl) (rcv_s rfl ho8) (inv_thr hI2) rfl ?_
  refine rq_st 1083 rfl rfl ?_
  refine rq_cmpt rfl (ma_cmpI.mpr rfl) ?_
  refine rq_st 1090 rfl rfl ?_
  refine rq_ifI 1093 rfl rfl (fun hz => ?_) (fun hz => ?_)
  · dsimp only [cI] at hz
    refine rq_st 1409 rfl rfl ?_
    exact ret _ _ _ _ _ _ hI2
  · dsimp only [cI] at hz
    refine rq_st 1094 rfl rfl ?_
    refine rq_ic 1095 (nI 0) rfl (by decide) rfl ?_
    refine rq_lalN 1096 rfl (inv_out hI2) (by decide) (by decide) rfl ?_
    rw [hk (Classical.byContradiction hz)]
    refine rq_st 1098 rfl rfl ?_
    refine rq_st 1099 rfl rfl ?_
    refine rq_st 1100 rfl rfl ?_
    refine rq_ift rfl (lg_z _) ?_
    refine rq_st 1409 rfl rfl ?_
    exact ret _ _ _ _ _ _ hI2
set_option maxRecDepth 20000 in
set_option maxHeartbeats 1000000 in
theorem law_due {L : Nat} {xs : Nat → Int32} {i C Sx : Nat} {t : Int32} {G : ma_G} {o : Nat → Int64} {o5 o6 o7 : Option Value} (hL : L ≤ 3072) (hi : i + 6 ≤ L) (ret : ∀ (t : Int32) (G : ma_G) (o : Nat → Int64) (o5 o6 o7 : Option Value), INV L xs t G o → Rq 9 M_L_law 1409 [some (.ref 0), some (.ref 1), some (.ref 49), some (.ref 63), some (.int (nI i)), o5, o6, o7] [] G (Qk C Sx QF)) (hI : INV L xs t G o) : Rq 9 M_L_law 1108 [some (.ref 0), some (.ref 1), some (.ref 49), some (.ref 63), some (.int (nI i)), o5, o6, o7] [] G (Qk (C + 1) (Sx + 6) QF) := by
  obtain ⟨k, b, G1, c1, s1, G2, o2, hc1, hs1, hcx, hmid, hcm, hI2, hk⟩ := cmd_due hI (xs (i + 1)) (xs (i + 2)) (xs (i + 3))
  have hs := inv_s hI
  obtain ⟨fs7, ho7⟩ := hmid.1
  obtain ⟨fs8, ho8⟩ := inv_o7 hI2
  refine rq_st 1109 rfl rfl ?_
  refine rq_st 1110 rfl rfl ?_
  refine rq_st 1112 rfl rfl ?_
  refine rq_ic 1113 (nI 1) rfl (by decide) rfl ?_
  refine rq_addN 1114 rfl rfl ?_
  refine rq_salN 1115 rfl hs (by omega) (by omega) rfl ?_
  refine rq_st 1116 rfl rfl ?_
  refine rq_st 1118 rfl rfl ?_
  refine rq_ic 1119 (nI 2) rfl (by decide) rfl ?_
  refine rq_addN 1120 rfl rfl ?_
  refine rq_salN 1121 rfl hs (by omega) (by omega) rfl ?_
  refine rq_st 1122 rfl rfl ?_
  refine rq_st 1124 rfl rfl ?_
  refine rq_ic 1125 (nI 3) rfl (by decide) rfl ?_
  refine rq_addN 1126 rfl rfl ?_
  refine rq_salN 1127 rfl hs (by omega) (by omega) rfl ?_
  refine rq_st 1128 rfl rfl ?_
  refine rk_callv C Sx [_, _, _, _, _] _ 1131 rfl rfl rfl rfl rfl (Nat.le_of_ble_eq_true rfl) (cats rfl) (rcv_n rfl) hcx rfl (by omega) (by omega) ?_
  refine rq_st 1133 rfl rfl ?_
  refine rq_st 1134 rfl rfl ?_
  refine rq_st 1135 rfl rfl ?_
  refine rq_st 1137 rfl rfl ?_
  refine rq_ic 1138 (nI 1) rfl (by decide) rfl ?_
  refine rq_addN 1139 rfl rfl ?_
  refine rq_salN 1140 rfl hmid.2 (by omega) (by omega) rfl ?_
  refine rq_st 1141 rfl rfl ?_
  refine rq_st 1143 rfl rfl ?_
  refine rq_ic 1144 (nI 2) rfl (by decide) rfl ?_
  refine rq_addN 1145 rfl rfl ?_
  refine rq_salN 1146 rfl hmid.2 (by omega) (by omega) rfl ?_
  refine rq_st 1147 rfl rfl ?_
  refine rq_st 1149 rfl rfl ?_
  refine rq_ic 1150 (nI 3) rfl (by decide) rfl ?_
  refine rq_addN 1151 rfl rfl ?_
  refine rq_salN 1152 rfl hmid.2 (by omega) (by omega) rfl ?_
  refine rq_call [_, _, _, _] _ 1155 rfl rfl rfl rfl rfl (Nat.le_of_ble_eq_true rfl) (cats rfl) (rcv_s rfl ho7) hcm rfl ?_
  refine rq_st 1157 rfl rfl ?_
  refine rq_st 1158 rfl rfl ?_
  refine rq_call [_] _ 1161 rfl rfl rfl rfl rfl (Nat.le_of_ble_eq_true rfl) (cats rfl) (rcv_s rfl ho8) (inv_thr hI2) rfl ?_
  refine rq_st 1163 rfl rfl ?_
  refine rq_cmpt rfl (ma_cmpI.mpr rfl) ?_
  refine rq_st 1170 rfl rfl ?_
  refine rq_ifI 1173 rfl rfl (fun hz => ?_) (fun hz => ?_)
  · dsimp only [cI] at hz
    refine rq_st 1409 rfl rfl ?_
    exact ret _ _ _ _ _ _ hI2
  · dsimp only [cI] at hz
    refine rq_st 1174 rfl rfl ?_
    refine rq_ic 1175 (nI 0) rfl (by decide) rfl ?_
    refine rq_lalN 1176 rfl (inv_out hI2) (by decide) (by decide) rfl ?_
    rw [hk (Classical.byContradiction hz)]
    refine rq_st 1178 rfl rfl ?_
    refine rq_st 1179 rfl rfl ?_
    refine rq_st 1180 rfl rfl ?_
    refine rq_ift rfl (lg_z _) ?_
    refine rq_st 1409 rfl rfl ?_
    exact ret _ _ _ _ _ _ hI2
set_option maxRecDepth 20000 in
set_option maxHeartbeats 1000000 in
theorem law_coverage {L : Nat} {xs : Nat → Int32} {i C Sx : Nat} {t : Int32} {G : ma_G} {o : Nat → Int64} {o5 o6 o7 : Option Value} (hL : L ≤ 3072) (hi : i + 6 ≤ L) (ret : ∀ (t : Int32) (G : ma_G) (o : Nat → Int64) (o5 o6 o7 : Option Value), INV L xs t G o → Rq 9 M_L_law 1409 [some (.ref 0), some (.ref 1), some (.ref 49), some (.ref 63), some (.int (nI i)), o5, o6, o7] [] G (Qk C Sx QF)) (hI : INV L xs t G o) : Rq 9 M_L_law 1188 [some (.ref 0), some (.ref 1), some (.ref 49), some (.ref 63), some (.int (nI i)), o5, o6, o7] [] G (Qk (C + 1) (Sx + 6) QF) := by
  obtain ⟨k, b, G1, c1, s1, G2, o2, hc1, hs1, hcx, hmid, hcm, hI2, hk⟩ := cmd_coverage hI (xs (i + 1)) (xs (i + 2)) (xs (i + 3))
  have hs := inv_s hI
  obtain ⟨fs7, ho7⟩ := hmid.1
  obtain ⟨fs8, ho8⟩ := inv_o7 hI2
  refine rq_st 1189 rfl rfl ?_
  refine rq_st 1190 rfl rfl ?_
  refine rq_st 1192 rfl rfl ?_
  refine rq_ic 1193 (nI 1) rfl (by decide) rfl ?_
  refine rq_addN 1194 rfl rfl ?_
  refine rq_salN 1195 rfl hs (by omega) (by omega) rfl ?_
  refine rq_st 1196 rfl rfl ?_
  refine rq_st 1198 rfl rfl ?_
  refine rq_ic 1199 (nI 2) rfl (by decide) rfl ?_
  refine rq_addN 1200 rfl rfl ?_
  refine rq_salN 1201 rfl hs (by omega) (by omega) rfl ?_
  refine rq_st 1202 rfl rfl ?_
  refine rq_st 1204 rfl rfl ?_
  refine rq_ic 1205 (nI 3) rfl (by decide) rfl ?_
  refine rq_addN 1206 rfl rfl ?_
  refine rq_salN 1207 rfl hs (by omega) (by omega) rfl ?_
  refine rq_st 1208 rfl rfl ?_
  refine rk_callv C Sx [_, _, _, _, _] _ 1211 rfl rfl rfl rfl rfl (Nat.le_of_ble_eq_true rfl) (cats rfl) (rcv_n rfl) hcx rfl (by omega) (by omega) ?_
  refine rq_st 1213 rfl rfl ?_
  refine rq_st 1214 rfl rfl ?_
  refine rq_st 1215 rfl rfl ?_
  refine rq_st 1217 rfl rfl ?_
  refine rq_ic 1218 (nI 1) rfl (by decide) rfl ?_
  refine rq_addN 1219 rfl rfl ?_
  refine rq_salN 1220 rfl hmid.2 (by omega) (by omega) rfl ?_
  refine rq_st 1221 rfl rfl ?_
  refine rq_st 1223 rfl rfl ?_
  refine rq_ic 1224 (nI 2) rfl (by decide) rfl ?_
  refine rq_addN 1225 rfl rfl ?_
  refine rq_salN 1226 rfl hmid.2 (by omega) (by omega) rfl ?_
  refine rq_st 1227 rfl rfl ?_
  refine rq_st 1229 rfl rfl ?_
  refine rq_ic 1230 (nI 3) rfl (by decide) rfl ?_
  refine rq_addN 1231 rfl rfl ?_
  refine rq_salN 1232 rfl hmid.2 (by omega) (by omega) rfl ?_
  refine rq_call [_, _, _, _] _ 1235 rfl rfl rfl rfl rfl (Nat.le_of_ble_eq_true rfl) (cats rfl) (rcv_s rfl ho7) hcm rfl ?_
  refine rq_st 1237 rfl rfl ?_
  refine rq_st 1238 rfl rfl ?_
  refine rq_call [_] _ 1241 rfl rfl rfl rfl rfl (Nat.le_of_ble_eq_true rfl) (cats rfl) (rcv_s rfl ho8) (inv_thr hI2) rfl ?_
  refine rq_st 1243 rfl rfl ?_
  refine rq_cmpt rfl (ma_cmpI.mpr rfl) ?_
  refine rq_st 1250 rfl rfl ?_
  refine rq_ifI 1253 rfl rfl (fun hz => ?_) (fun hz => ?_)
  · dsimp only [cI] at hz
    refine rq_st 1409 rfl rfl ?_
    exact ret _ _ _ _ _ _ hI2
  · dsimp only [cI] at hz
    refine rq_st 1254 rfl rfl ?_
    refine rq_ic 1255 (nI 0) rfl (by decide) rfl ?_
    refine rq_lalN 1256 rfl (inv_out hI2) (by decide) (by decide) rfl ?_
    rw [hk (Classical.byContradiction hz)]
    refine rq_st 1258 rfl rfl ?_
    refine rq_st 1259 rfl rfl ?_
    refine rq_st 1260 rfl rfl ?_
    refine rq_ift rfl (lg_z _) ?_
    refine rq_st 1409 rfl rfl ?_
    exact ret _ _ _ _ _ _ hI2
set_option maxRecDepth 20000 in
set_option maxHeartbeats 1000000 in
theorem law_lotList {L : Nat} {xs : Nat → Int32} {i C Sx : Nat} {t : Int32} {G : ma_G} {o : Nat → Int64} {o5 o6 o7 : Option Value} (hL : L ≤ 3072) (hi : i + 6 ≤ L) (ret : ∀ (t : Int32) (G : ma_G) (o : Nat → Int64) (o5 o6 o7 : Option Value), INV L xs t G o → Rq 9 M_L_law 1409 [some (.ref 0), some (.ref 1), some (.ref 49), some (.ref 63), some (.int (nI i)), o5, o6, o7] [] G (Qk C Sx QF)) (hI : INV L xs t G o) : Rq 9 M_L_law 1268 [some (.ref 0), some (.ref 1), some (.ref 49), some (.ref 63), some (.int (nI i)), o5, o6, o7] [] G (Qk (C + 1) (Sx + 6) QF) := by
  obtain ⟨v, G1, G2, t2, o2, hcx, hmid, hcm, hI2⟩ := cmd_lotList hI (xs (i + 1)) (xs (i + 2)) (xs (i + 3))
  have hs := inv_s hI
  obtain ⟨fs7, ho7⟩ := hmid.1
  obtain ⟨fs6, ho6⟩ := inv_o6 hI
  refine rk_mono (Nat.le_succ C) (Nat.le_add_right Sx 6) ?_
  refine rq_st 1269 rfl rfl ?_
  refine rq_st 1270 rfl rfl ?_
  refine rq_st 1272 rfl rfl ?_
  refine rq_ic 1273 (nI 1) rfl (by decide) rfl ?_
  refine rq_addN 1274 rfl rfl ?_
  refine rq_salN 1275 rfl hs (by omega) (by omega) rfl ?_
  refine rq_st 1276 rfl rfl ?_
  refine rq_st 1278 rfl rfl ?_
  refine rq_ic 1279 (nI 2) rfl (by decide) rfl ?_
  refine rq_addN 1280 rfl rfl ?_
  refine rq_salN 1281 rfl hs (by omega) (by omega) rfl ?_
  refine rq_st 1282 rfl rfl ?_
  refine rq_st 1284 rfl rfl ?_
  refine rq_ic 1285 (nI 3) rfl (by decide) rfl ?_
  refine rq_addN 1286 rfl rfl ?_
  refine rq_salN 1287 rfl hs (by omega) (by omega) rfl ?_
  refine rq_call [_, _, _, _] _ 1290 rfl rfl rfl rfl rfl (Nat.le_of_ble_eq_true rfl) (cats rfl) (rcv_s rfl ho6) hcx rfl ?_
  refine rq_st 1291 rfl rfl ?_
  refine rq_st 1292 rfl rfl ?_
  refine rq_st 1294 rfl rfl ?_
  refine rq_ic 1295 (nI 1) rfl (by decide) rfl ?_
  refine rq_addN 1296 rfl rfl ?_
  refine rq_salN 1297 rfl hmid.2 (by omega) (by omega) rfl ?_
  refine rq_st 1298 rfl rfl ?_
  refine rq_st 1300 rfl rfl ?_
  refine rq_ic 1301 (nI 2) rfl (by decide) rfl ?_
  refine rq_addN 1302 rfl rfl ?_
  refine rq_salN 1303 rfl hmid.2 (by omega) (by omega) rfl ?_
  refine rq_st 1304 rfl rfl ?_
  refine rq_st 1306 rfl rfl ?_
  refine rq_ic 1307 (nI 3) rfl (by decide) rfl ?_
  refine rq_addN 1308 rfl rfl ?_
  refine rq_salN 1309 rfl hmid.2 (by omega) (by omega) rfl ?_
  refine rq_call [_, _, _, _] _ 1312 rfl rfl rfl rfl rfl (Nat.le_of_ble_eq_true rfl) (cats rfl) (rcv_s rfl ho7) hcm rfl ?_
  refine rq_cmpt rfl (ma_cmpI.mpr rfl) ?_
  exact ret _ _ _ _ _ _ hI2
set_option maxRecDepth 20000 in
set_option maxHeartbeats 1000000 in
theorem law_whoIs {L : Nat} {xs : Nat → Int32} {i C Sx : Nat} {t : Int32} {G : ma_G} {o : Nat → Int64} {o5 o6 o7 : Option Value} (hL : L ≤ 3072) (hi : i + 6 ≤ L) (ret : ∀ (t : Int32) (G : ma_G) (o : Nat → Int64) (o5 o6 o7 : Option Value), INV L xs t G o → Rq 9 M_L_law 1409 [some (.ref 0), some (.ref 1), some (.ref 49), some (.ref 63), some (.int (nI i)), o5, o6, o7] [] G (Qk C Sx QF)) (hI : INV L xs t G o) : Rq 9 M_L_law 1317 [some (.ref 0), some (.ref 1), some (.ref 49), some (.ref 63), some (.int (nI i)), o5, o6, o7] [] G (Qk (C + 1) (Sx + 6) QF) := by
  obtain ⟨v, G1, G2, t2, o2, hcx, hmid, hcm, hI2⟩ := cmd_whoIs hI (xs (i + 1)) (xs (i + 2))
  have hs := inv_s hI
  obtain ⟨fs7, ho7⟩ := hmid.1
  obtain ⟨fs6, ho6⟩ := inv_o6 hI
  refine rk_mono (Nat.le_succ C) (Nat.le_add_right Sx 6) ?_
  refine rq_st 1318 rfl rfl ?_
  refine rq_st 1319 rfl rfl ?_
  refine rq_st 1321 rfl rfl ?_
  refine rq_ic 1322 (nI 1) rfl (by decide) rfl ?_
  refine rq_addN 1323 rfl rfl ?_
  refine rq_salN 1324 rfl hs (by omega) (by omega) rfl ?_
  refine rq_st 1325 rfl rfl ?_
  refine rq_st 1327 rfl rfl ?_
  refine rq_ic 1328 (nI 2) rfl (by decide) rfl ?_
  refine rq_addN 1329 rfl rfl ?_
  refine rq_salN 1330 rfl hs (by omega) (by omega) rfl ?_
  refine rq_call [_, _, _] _ 1333 rfl rfl rfl rfl rfl (Nat.le_of_ble_eq_true rfl) (cats rfl) (rcv_s rfl ho6) hcx rfl ?_
  refine rq_st 1334 rfl rfl ?_
  refine rq_st 1335 rfl rfl ?_
  refine rq_st 1337 rfl rfl ?_
  refine rq_ic 1338 (nI 1) rfl (by decide) rfl ?_
  refine rq_addN 1339 rfl rfl ?_
  refine rq_salN 1340 rfl hmid.2 (by omega) (by omega) rfl ?_
  refine rq_st 1341 rfl rfl ?_
  refine rq_st 1343 rfl rfl ?_
  refine rq_ic 1344 (nI 2) rfl (by decide) rfl ?_
  refine rq_addN 1345 rfl rfl ?_
  refine rq_salN 1346 rfl hmid.2 (by omega) (by omega) rfl ?_
  refine rq_call [_, _, _] _ 1349 rfl rfl rfl rfl rfl (Nat.le_of_ble_eq_true rfl) (cats rfl) (rcv_s rfl ho7) hcm rfl ?_
  refine rq_cmpt rfl (ma_cmpI.mpr rfl) ?_
  exact ret _ _ _ _ _ _ hI2
set_option maxRecDepth 20000 in
set_option maxHeartbeats 1000000 in
theorem law_sum {L : Nat} {xs : Nat → Int32} {i C Sx : Nat} {t : Int32} {G : ma_G} {o : Nat → Int64} {o5 o6 o7 : Option Value} (hL : L ≤ 3072) (hi : i + 6 ≤ L) (ret : ∀ (t : Int32) (G : ma_G) (o : Nat → Int64) (o5 o6 o7 : Option Value), INV L xs t G o → Rq 9 M_L_law 1409 [some (.ref 0), some (.ref 1), some (.ref 49), some (.ref 63), some (.int (nI i)), o5, o6, o7] [] G (Qk C Sx QF)) (hI : INV L xs t G o) : Rq 9 M_L_law 1354 [some (.ref 0), some (.ref 1), some (.ref 49), some (.ref 63), some (.int (nI i)), o5, o6, o7] [] G (Qk (C + 1) (Sx + 6) QF) := by
  obtain ⟨k, b, G1, c1, s1, G2, o2, hc1, hs1, hcx, hmid, hcm, hI2, hk⟩ := cmd_sum hI (xs (i + 1))
  have hs := inv_s hI
  obtain ⟨fs7, ho7⟩ := hmid.1
  obtain ⟨fs8, ho8⟩ := inv_o7 hI2
  refine rq_st 1355 rfl rfl ?_
  refine rq_st 1356 rfl rfl ?_
  refine rq_st 1358 rfl rfl ?_
  refine rq_ic 1359 (nI 1) rfl (by decide) rfl ?_
  refine rq_addN 1360 rfl rfl ?_
  refine rq_salN 1361 rfl hs (by omega) (by omega) rfl ?_
  refine rq_st 1362 rfl rfl ?_
  refine rk_callv C Sx [_, _, _] _ 1365 rfl rfl rfl rfl rfl (Nat.le_of_ble_eq_true rfl) (cats rfl) (rcv_n rfl) hcx rfl (by omega) (by omega) ?_
  refine rq_st 1367 rfl rfl ?_
  refine rq_st 1368 rfl rfl ?_
  refine rq_st 1369 rfl rfl ?_
  refine rq_st 1371 rfl rfl ?_
  refine rq_ic 1372 (nI 1) rfl (by decide) rfl ?_
  refine rq_addN 1373 rfl rfl ?_
  refine rq_salN 1374 rfl hmid.2 (by omega) (by omega) rfl ?_
  refine rq_call [_, _] _ 1377 rfl rfl rfl rfl rfl (Nat.le_of_ble_eq_true rfl) (cats rfl) (rcv_s rfl ho7) hcm rfl ?_
  refine rq_st 1379 rfl rfl ?_
  refine rq_st 1380 rfl rfl ?_
  refine rq_call [_] _ 1383 rfl rfl rfl rfl rfl (Nat.le_of_ble_eq_true rfl) (cats rfl) (rcv_s rfl ho8) (inv_thr hI2) rfl ?_
  refine rq_st 1385 rfl rfl ?_
  refine rq_cmpt rfl (ma_cmpI.mpr rfl) ?_
  refine rq_st 1392 rfl rfl ?_
  refine rq_ifI 1395 rfl rfl (fun hz => ?_) (fun hz => ?_)
  · dsimp only [cI] at hz
    refine rq_st 1409 rfl rfl ?_
    exact ret _ _ _ _ _ _ hI2
  · dsimp only [cI] at hz
    refine rq_st 1396 rfl rfl ?_
    refine rq_ic 1397 (nI 0) rfl (by decide) rfl ?_
    refine rq_lalN 1398 rfl (inv_out hI2) (by decide) (by decide) rfl ?_
    rw [hk (Classical.byContradiction hz)]
    refine rq_st 1400 rfl rfl ?_
    refine rq_st 1401 rfl rfl ?_
    refine rq_ift rfl (lg_z _) ?_
    refine rq_st 1409 rfl rfl ?_
    exact ret _ _ _ _ _ _ hI2
