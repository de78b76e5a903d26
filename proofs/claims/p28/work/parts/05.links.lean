theorem fd_X0_9 : zFd RX0 9 0 0 := ⟨RX0, TX0, 6, rfl, ziX0, by decide, q40⟩
theorem fp_X0_9 : zFp RX0 9 0 0 (.array .int) true := ⟨RX0, TX0, 6, tyX0, rfl, ziX0, tyX0_ok, nmX0, by decide, q40, rfl, by decide +kernel, rfl⟩
theorem fd_X1_80 : zFd RX1 80 0 0 := ⟨RX0, TX0, 6, rfl, ziX0, by decide, q41⟩
theorem fp_X1_80 : zFp RX1 80 0 0 (.array .int) true := ⟨RX0, TX0, 6, tyX0, rfl, ziX0, tyX0_ok, nmX0, by decide, q41, rfl, by decide +kernel, rfl⟩
theorem fd_X4_170 : zFd RX4 170 0 0 := ⟨RX0, TX0, 6, rfl, ziX0, by decide, q42⟩
theorem fp_X4_170 : zFp RX4 170 0 0 (.array .int) true := ⟨RX0, TX0, 6, tyX0, rfl, ziX0, tyX0_ok, nmX0, by decide, q42, rfl, by decide +kernel, rfl⟩
theorem fd_X0_15 : zFd RX0 15 0 1 := ⟨RX0, TX0, 6, rfl, ziX0, by decide, q43⟩
theorem fp_X0_15 : zFp RX0 15 0 1 (.array .int) true := ⟨RX0, TX0, 6, tyX0, rfl, ziX0, tyX0_ok, nmX0, by decide, q43, rfl, by decide +kernel, rfl⟩
theorem fd_X4_173 : zFd RX4 173 0 1 := ⟨RX0, TX0, 6, rfl, ziX0, by decide, q44⟩
theorem fp_X4_173 : zFp RX4 173 0 1 (.array .int) true := ⟨RX0, TX0, 6, tyX0, rfl, ziX0, tyX0_ok, nmX0, by decide, q44, rfl, by decide +kernel, rfl⟩
theorem fd_X0_18 : zFd RX0 18 0 2 := ⟨RX0, TX0, 6, rfl, ziX0, by decide, q45⟩
theorem fp_X0_18 : zFp RX0 18 0 2 (.array .int) true := ⟨RX0, TX0, 6, tyX0, rfl, ziX0, tyX0_ok, nmX0, by decide, q45, rfl, by decide +kernel, rfl⟩
theorem fd_X4_193 : zFd RX4 193 0 2 := ⟨RX0, TX0, 6, rfl, ziX0, by decide, q46⟩
theorem fp_X4_193 : zFp RX4 193 0 2 (.array .int) true := ⟨RX0, TX0, 6, tyX0, rfl, ziX0, tyX0_ok, nmX0, by decide, q46, rfl, by decide +kernel, rfl⟩
theorem fd_X0_21 : zFd RX0 21 0 3 := ⟨RX0, TX0, 6, rfl, ziX0, by decide, q47⟩
theorem fp_X0_21 : zFp RX0 21 0 3 .int false := ⟨RX0, TX0, 6, tyX0, rfl, ziX0, tyX0_ok, nmX0, by decide, q47, rfl, by decide +kernel, rfl⟩
theorem fd_X4_155 : zFd RX4 155 0 3 := ⟨RX0, TX0, 6, rfl, ziX0, by decide, q48⟩
theorem fp_X4_155 : zFp RX4 155 0 3 .int false := ⟨RX0, TX0, 6, tyX0, rfl, ziX0, tyX0_ok, nmX0, by decide, q48, rfl, by decide +kernel, rfl⟩
theorem fd_X0_25 : zFd RX0 25 0 4 := ⟨RX0, TX0, 6, rfl, ziX0, by decide, q49⟩
theorem fp_X0_25 : zFp RX0 25 0 4 .int false := ⟨RX0, TX0, 6, tyX0, rfl, ziX0, tyX0_ok, nmX0, by decide, q49, rfl, by decide +kernel, rfl⟩
theorem fd_X4_96 : zFd RX4 96 0 4 := ⟨RX0, TX0, 6, rfl, ziX0, by decide, q50⟩
theorem fp_X4_96 : zFp RX4 96 0 4 .int false := ⟨RX0, TX0, 6, tyX0, rfl, ziX0, tyX0_ok, nmX0, by decide, q50, rfl, by decide +kernel, rfl⟩
theorem fd_X1_91 : zFd RX1 91 0 4 := ⟨RX0, TX0, 6, rfl, ziX0, by decide, q51⟩
theorem fp_X1_91 : zFp RX1 91 0 4 .int false := ⟨RX0, TX0, 6, tyX0, rfl, ziX0, tyX0_ok, nmX0, by decide, q51, rfl, by decide +kernel, rfl⟩
theorem fd_X0_28 : zFd RX0 28 0 5 := ⟨RX0, TX0, 6, rfl, ziX0, by decide, q52⟩
theorem fp_X0_28 : zFp RX0 28 0 5 .int false := ⟨RX0, TX0, 6, tyX0, rfl, ziX0, tyX0_ok, nmX0, by decide, q52, rfl, by decide +kernel, rfl⟩
theorem fd_X1_84 : zFd RX1 84 0 5 := ⟨RX0, TX0, 6, rfl, ziX0, by decide, q53⟩
theorem fp_X1_84 : zFp RX1 84 0 5 .int false := ⟨RX0, TX0, 6, tyX0, rfl, ziX0, tyX0_ok, nmX0, by decide, q53, rfl, by decide +kernel, rfl⟩
theorem fd_X4_165 : zFd RX4 165 0 5 := ⟨RX0, TX0, 6, rfl, ziX0, by decide, q54⟩
theorem fp_X4_165 : zFp RX4 165 0 5 .int false := ⟨RX0, TX0, 6, tyX0, rfl, ziX0, tyX0_ok, nmX0, by decide, q54, rfl, by decide +kernel, rfl⟩
theorem fd_X1_11 : zFd RX1 11 1 0 := ⟨RX1, TX1, 7, rfl, ziX1, by decide, q69⟩
theorem fp_X1_11 : zFp RX1 11 1 0 (.array (.object "HerdCords$Cord")) true := ⟨RX1, TX1, 7, tyX1, rfl, ziX1, tyX1_ok, nmX1, by decide, q69, rfl, by decide +kernel, rfl⟩
theorem fd_X4_286 : zFd RX4 286 1 0 := ⟨RX1, TX1, 7, rfl, ziX1, by decide, q70⟩
theorem fp_X4_286 : zFp RX4 286 1 0 (.array (.object "HerdCords$Cord")) true := ⟨RX1, TX1, 7, tyX1, rfl, ziX1, tyX1_ok, nmX1, by decide, q70, rfl, by decide +kernel, rfl⟩
theorem fd_X1_17 : zFd RX1 17 1 1 := ⟨RX1, TX1, 7, rfl, ziX1, by decide, q71⟩
theorem fp_X1_17 : zFp RX1 17 1 1 .int false := ⟨RX1, TX1, 7, tyX1, rfl, ziX1, tyX1_ok, nmX1, by decide, q71, rfl, by decide +kernel, rfl⟩
theorem fd_X4_101 : zFd RX4 101 1 1 := ⟨RX1, TX1, 7, rfl, ziX1, by decide, q72⟩
theorem fp_X4_101 : zFp RX4 101 1 1 .int false := ⟨RX1, TX1, 7, tyX1, rfl, ziX1, tyX1_ok, nmX1, by decide, q72, rfl, by decide +kernel, rfl⟩
theorem fd_X1_21 : zFd RX1 21 1 2 := ⟨RX1, TX1, 7, rfl, ziX1, by decide, q73⟩
theorem fp_X1_21 : zFp RX1 21 1 2 .int false := ⟨RX1, TX1, 7, tyX1, rfl, ziX1, tyX1_ok, nmX1, by decide, q73, rfl, by decide +kernel, rfl⟩
theorem fd_X4_197 : zFd RX4 197 1 2 := ⟨RX1, TX1, 7, rfl, ziX1, by decide, q74⟩
theorem fp_X4_197 : zFp RX4 197 1 2 .int false := ⟨RX1, TX1, 7, tyX1, rfl, ziX1, tyX1_ok, nmX1, by decide, q74, rfl, by decide +kernel, rfl⟩
theorem fd_X1_24 : zFd RX1 24 1 3 := ⟨RX1, TX1, 7, rfl, ziX1, by decide, q75⟩
theorem fp_X1_24 : zFp RX1 24 1 3 .int false := ⟨RX1, TX1, 7, tyX1, rfl, ziX1, tyX1_ok, nmX1, by decide, q75, rfl, by decide +kernel, rfl⟩
theorem fd_X4_200 : zFd RX4 200 1 3 := ⟨RX1, TX1, 7, rfl, ziX1, by decide, q76⟩
theorem fp_X4_200 : zFp RX4 200 1 3 .int false := ⟨RX1, TX1, 7, tyX1, rfl, ziX1, tyX1_ok, nmX1, by decide, q76, rfl, by decide +kernel, rfl⟩
theorem fd_X1_27 : zFd RX1 27 1 4 := ⟨RX1, TX1, 7, rfl, ziX1, by decide, q77⟩
theorem fp_X1_27 : zFp RX1 27 1 4 .int false := ⟨RX1, TX1, 7, tyX1, rfl, ziX1, tyX1_ok, nmX1, by decide, q77, rfl, by decide +kernel, rfl⟩
theorem fd_X4_203 : zFd RX4 203 1 4 := ⟨RX1, TX1, 7, rfl, ziX1, by decide, q78⟩
theorem fp_X4_203 : zFp RX4 203 1 4 .int false := ⟨RX1, TX1, 7, tyX1, rfl, ziX1, tyX1_ok, nmX1, by decide, q78, rfl, by decide +kernel, rfl⟩
theorem fd_X1_30 : zFd RX1 30 1 5 := ⟨RX1, TX1, 7, rfl, ziX1, by decide, q79⟩
theorem fp_X1_30 : zFp RX1 30 1 5 .int false := ⟨RX1, TX1, 7, tyX1, rfl, ziX1, tyX1_ok, nmX1, by decide, q79, rfl, by decide +kernel, rfl⟩
theorem fd_X4_204 : zFd RX4 204 1 5 := ⟨RX1, TX1, 7, rfl, ziX1, by decide, q80⟩
theorem fp_X4_204 : zFp RX4 204 1 5 .int false := ⟨RX1, TX1, 7, tyX1, rfl, ziX1, tyX1_ok, nmX1, by decide, q80, rfl, by decide +kernel, rfl⟩
theorem fd_X1_33 : zFd RX1 33 1 6 := ⟨RX1, TX1, 7, rfl, ziX1, by decide, q81⟩
theorem fp_X1_33 : zFp RX1 33 1 6 .int false := ⟨RX1, TX1, 7, tyX1, rfl, ziX1, tyX1_ok, nmX1, by decide, q81, rfl, by decide +kernel, rfl⟩
theorem fd_X4_207 : zFd RX4 207 1 6 := ⟨RX1, TX1, 7, rfl, ziX1, by decide, q82⟩
theorem fp_X4_207 : zFp RX4 207 1 6 .int false := ⟨RX1, TX1, 7, tyX1, rfl, ziX1, tyX1_ok, nmX1, by decide, q82, rfl, by decide +kernel, rfl⟩
theorem fd_X2_11 : zFd RX2 11 2 0 := ⟨RX2, TX2, 3, rfl, ziX2, by decide, q107⟩
theorem fp_X2_11 : zFp RX2 11 2 0 (.array (.object "HerdCords$Herd")) true := ⟨RX2, TX2, 3, tyX2, rfl, ziX2, tyX2_ok, nmX2, by decide, q107, rfl, by decide +kernel, rfl⟩
theorem fd_X2_17 : zFd RX2 17 2 1 := ⟨RX2, TX2, 3, rfl, ziX2, by decide, q108⟩
theorem fp_X2_17 : zFp RX2 17 2 1 .int false := ⟨RX2, TX2, 3, tyX2, rfl, ziX2, tyX2_ok, nmX2, by decide, q108, rfl, by decide +kernel, rfl⟩
theorem fd_X2_21 : zFd RX2 21 2 2 := ⟨RX2, TX2, 3, rfl, ziX2, by decide, q109⟩
theorem fp_X2_21 : zFp RX2 21 2 2 .int false := ⟨RX2, TX2, 3, tyX2, rfl, ziX2, tyX2_ok, nmX2, by decide, q109, rfl, by decide +kernel, rfl⟩
theorem fd_X4_142 : zFd RX4 142 2 2 := ⟨RX2, TX2, 3, rfl, ziX2, by decide, q110⟩
theorem fp_X4_142 : zFp RX4 142 2 2 .int false := ⟨RX2, TX2, 3, tyX2, rfl, ziX2, tyX2_ok, nmX2, by decide, q110, rfl, by decide +kernel, rfl⟩
theorem fd_X3_11 : zFd RX3 11 3 0 := ⟨RX3, TX3, 5, rfl, ziX3, by decide, q124⟩
theorem fp_X3_11 : zFp RX3 11 3 0 .int false := ⟨RX3, TX3, 5, tyX3, rfl, ziX3, tyX3_ok, nmX3, by decide, q124, rfl, by decide +kernel, rfl⟩
theorem fd_X3_15 : zFd RX3 15 3 1 := ⟨RX3, TX3, 5, rfl, ziX3, by decide, q125⟩
theorem fp_X3_15 : zFp RX3 15 3 1 .int false := ⟨RX3, TX3, 5, tyX3, rfl, ziX3, tyX3_ok, nmX3, by decide, q125, rfl, by decide +kernel, rfl⟩
theorem fd_X3_18 : zFd RX3 18 3 2 := ⟨RX3, TX3, 5, rfl, ziX3, by decide, q126⟩
theorem fp_X3_18 : zFp RX3 18 3 2 .int false := ⟨RX3, TX3, 5, tyX3, rfl, ziX3, tyX3_ok, nmX3, by decide, q126, rfl, by decide +kernel, rfl⟩
theorem fd_X3_21 : zFd RX3 21 3 3 := ⟨RX3, TX3, 5, rfl, ziX3, by decide, q127⟩
theorem fp_X3_21 : zFp RX3 21 3 3 .char false := ⟨RX3, TX3, 5, tyX3, rfl, ziX3, tyX3_ok, nmX3, by decide, q127, rfl, by decide +kernel, rfl⟩
theorem fd_X3_25 : zFd RX3 25 3 4 := ⟨RX3, TX3, 5, rfl, ziX3, by decide, q128⟩
theorem fp_X3_25 : zFp RX3 25 3 4 .int false := ⟨RX3, TX3, 5, tyX3, rfl, ziX3, tyX3_ok, nmX3, by decide, q128, rfl, by decide +kernel, rfl⟩
theorem fd_X4_10 : zFd RX4 10 4 0 := ⟨RX4, TX4, 8, rfl, ziX4, by decide, q143⟩
theorem fp_X4_10 : zFp RX4 10 4 0 (.object "HerdCords$Herd") true := ⟨RX4, TX4, 8, tyX4, rfl, ziX4, tyX4_ok, nmX4, by decide, q143, rfl, by decide +kernel, rfl⟩
theorem fd_X4_19 : zFd RX4 19 4 1 := ⟨RX4, TX4, 8, rfl, ziX4, by decide, q144⟩
theorem fp_X4_19 : zFp RX4 19 4 1 (.object "HerdCords$History") true := ⟨RX4, TX4, 8, tyX4, rfl, ziX4, tyX4_ok, nmX4, by decide, q144, rfl, by decide +kernel, rfl⟩
theorem fd_X4_23 : zFd RX4 23 4 2 := ⟨RX4, TX4, 8, rfl, ziX4, by decide, q145⟩
theorem fp_X4_23 : zFp RX4 23 4 2 (.array (.object "HerdCords$Herd")) true := ⟨RX4, TX4, 8, tyX4, rfl, ziX4, tyX4_ok, nmX4, by decide, q145, rfl, by decide +kernel, rfl⟩
theorem fd_X4_27 : zFd RX4 27 4 3 := ⟨RX4, TX4, 8, rfl, ziX4, by decide, q146⟩
theorem fp_X4_27 : zFp RX4 27 4 3 (.array .char) true := ⟨RX4, TX4, 8, tyX4, rfl, ziX4, tyX4_ok, nmX4, by decide, q146, rfl, by decide +kernel, rfl⟩
theorem fd_X4_31 : zFd RX4 31 4 4 := ⟨RX4, TX4, 8, rfl, ziX4, by decide, q147⟩
theorem fp_X4_31 : zFp RX4 31 4 4 .int false := ⟨RX4, TX4, 8, tyX4, rfl, ziX4, tyX4_ok, nmX4, by decide, q147, rfl, by decide +kernel, rfl⟩
theorem fd_X4_38 : zFd RX4 38 4 5 := ⟨RX4, TX4, 8, rfl, ziX4, by decide, q148⟩
theorem fp_X4_38 : zFp RX4 38 4 5 (.object "HerdCords$OrderReader") true := ⟨RX4, TX4, 8, tyX4, rfl, ziX4, tyX4_ok, nmX4, by decide, q148, rfl, by decide +kernel, rfl⟩
theorem fd_X4_45 : zFd RX4 45 4 6 := ⟨RX4, TX4, 8, rfl, ziX4, by decide, q149⟩
theorem fp_X4_45 : zFp RX4 45 4 6 (.object "HerdCords$Cord") true := ⟨RX4, TX4, 8, tyX4, rfl, ziX4, tyX4_ok, nmX4, by decide, q149, rfl, by decide +kernel, rfl⟩
theorem fd_X4_49 : zFd RX4 49 4 7 := ⟨RX4, TX4, 8, rfl, ziX4, by decide, q150⟩
theorem fp_X4_49 : zFp RX4 49 4 7 (.array .int) true := ⟨RX4, TX4, 8, tyX4, rfl, ziX4, tyX4_ok, nmX4, by decide, q150, rfl, by decide +kernel, rfl⟩
theorem lk_L_91 : zLv RL 91 4 yX4_keep cX4_keep 3 (some .int) 1 := zLv.of (T := TX4) (N := 8) rfl q168 q169 q170 q5 q171 (by decide +kernel)
theorem lk_X4_131 : zLs RX4 131 yX4_checkSlot cX4_checkSlot 1 none 1 := zLs.of q172 q173 q5 q174 (by decide +kernel)
theorem lk_X4_134 : zLv RX4 134 1 yX1_copyFrom cX1_copyFrom 3 none 1 := zLv.of (T := TX1) (N := 7) rfl q243 q244 q245 q6 q246 (by decide +kernel)
theorem lk_X1_37 : zLv RX1 37 0 yX0_copyFrom cX0_copyFrom 2 none 1 := zLv.of (T := TX0) (N := 6) rfl q247 q248 q249 q7 q250 (by decide +kernel)
theorem lk_X4_137 : zLv RX4 137 1 yX1_ties cX1_ties 1 (some .int) 0 := zLv.of (T := TX1) (N := 7) rfl q254 q255 q256 q6 q257 (by decide +kernel)
theorem lk_X1_94 : zLv RX1 94 1 yX1_knots cX1_knots 6 (some .int) 0 := zLv.of (T := TX1) (N := 7) rfl q258 q259 q260 q6 q261 (by decide +kernel)
theorem lk_X1_45 : zLv RX1 45 0 yX0_allKnots cX0_allKnots 1 (some .int) 0 := zLv.of (T := TX0) (N := 6) rfl q262 q263 q264 q7 q265 (by decide +kernel)
theorem lk_X0_41 : zLs RX0 41 yX0_sumOf cX0_sumOf 4 (some .int) 2 := zLs.of q266 q267 q7 q268 (by decide +kernel)
theorem lk_X1_96 : zLv RX1 96 1 yX1_loops cX1_loops 6 (some .int) 0 := zLv.of (T := TX1) (N := 7) rfl q269 q270 q271 q6 q272 (by decide +kernel)
theorem lk_X1_49 : zLv RX1 49 0 yX0_allLoops cX0_allLoops 1 (some .int) 0 := zLv.of (T := TX0) (N := 6) rfl q273 q274 q275 q7 q276 (by decide +kernel)
theorem lk_L_101 : zLv RL 101 4 yX4_goBack cX4_goBack 3 (some .int) 1 := zLv.of (T := TX4) (N := 8) rfl q277 q278 q279 q5 q280 (by decide +kernel)
theorem lk_X4_61 : zLv RX4 61 2 yX2_save cX2_save 2 none 1 := zLv.of (T := TX2) (N := 3) rfl q297 q298 q299 q8 q300 (by decide +kernel)
theorem lk_X2_25 : zLv RX2 25 1 yX1_copyFrom cX1_copyFrom 3 none 1 := zLv.of (T := TX1) (N := 7) rfl q301 q244 q245 q6 q246 (by decide +kernel)
theorem lk_X2_29 : zLs RX2 29 yJ9_min_7cf53 cJ9_min_7cf53 2 (some .int) 2 := zLs.of q302 q303 q14 q304 (by decide +kernel)
theorem lk_L_104 : zLv RL 104 4 yX4_undo cX4_undo 1 (some .int) 0 := zLv.of (T := TX4) (N := 8) rfl q305 q306 q307 q5 q308 (by decide +kernel)
theorem lk_X4_147 : zLv RX4 147 2 yX2_restore cX2_restore 2 none 1 := zLv.of (T := TX2) (N := 3) rfl q310 q311 q312 q8 q313 (by decide +kernel)
theorem lk_L_20 : zLv RL 20 4 yX4_count cX4_count 2 (some .int) 1 := zLv.of (T := TX4) (N := 8) rfl q314 q315 q316 q5 q317 (by decide +kernel)
theorem lk_X4_196 : zLv RX4 196 1 yX1_told cX1_told 6 (some .int) 0 := zLv.of (T := TX1) (N := 7) rfl q318 q319 q320 q6 q321 (by decide +kernel)
theorem lk_X1_60 : zLv RX1 60 0 yX0_told cX0_told 3 (some .int) 0 := zLv.of (T := TX0) (N := 6) rfl q322 q323 q324 q7 q325 (by decide +kernel)
theorem lk_X0_37 : zLv RX0 37 0 yX0_open cX0_open 2 (some .int) 1 := zLv.of (T := TX0) (N := 6) rfl q326 q327 q328 q7 q329 (by decide +kernel)
theorem lk_X4_210 : zLv RX4 210 1 yX1_lacking cX1_lacking 6 (some .int) 0 := zLv.of (T := TX1) (N := 7) rfl q330 q331 q332 q6 q333 (by decide +kernel)
theorem lk_X1_67 : zLv RX1 67 0 yX0_lack cX0_lack 1 (some .int) 0 := zLv.of (T := TX0) (N := 6) rfl q334 q335 q336 q7 q337 (by decide +kernel)
theorem lk_X0_45 : zLv RX0 45 0 yX0_partsTogether cX0_partsTogether 1 (some .int) 0 := zLv.of (T := TX0) (N := 6) rfl q338 q339 q340 q7 q341 (by decide +kernel)
theorem lk_X0_49 : zLv RX0 49 0 yX0_told cX0_told 3 (some .int) 0 := zLv.of (T := TX0) (N := 6) rfl q342 q323 q324 q7 q325 (by decide +kernel)
theorem lk_L_94 : zLs RL 94 yL_cell cL_cell 2 (some .int) 2 := zLs.of q344 q345 q4 q346 (by decide +kernel)
theorem lk_L_98 : zLs RL 98 yL_change cL_change 18 (some .boolean) 3 := zLs.of q348 q349 q4 q350 (by decide +kernel)
theorem lk_L_9 : zLs RL 9 yL_low cL_low 2 (some .int) 2 := zLs.of q351 q352 q4 q353 (by decide +kernel)
theorem lk_L_15 : zLv RL 15 4 yX4_cordOf cX4_cordOf 4 (some .int) 2 := zLv.of (T := TX4) (N := 8) rfl q355 q356 q357 q5 q358 (by decide +kernel)
theorem lk_X4_53 : zLv RX4 53 4 yX4_cordAt cX4_cordAt 2 (some (.object "HerdCords$Cord")) 1 := zLv.of (T := TX4) (N := 8) rfl q359 q361 q1 q5 q362 (by decide +kernel)
theorem lk_X4_150 : zLv RX4 150 0 yX0_told cX0_told 3 (some .int) 0 := zLv.of (T := TX0) (N := 6) rfl q379 q323 q324 q7 q325 (by decide +kernel)
theorem lk_X4_152 : zLv RX4 152 0 yX0_partsTogether cX0_partsTogether 1 (some .int) 0 := zLv.of (T := TX0) (N := 6) rfl q380 q339 q340 q7 q341 (by decide +kernel)
theorem lk_X4_158 : zLv RX4 158 0 yX0_lack cX0_lack 1 (some .int) 0 := zLv.of (T := TX0) (N := 6) rfl q381 q335 q336 q7 q337 (by decide +kernel)
theorem lk_X4_161 : zLv RX4 161 0 yX0_ties cX0_ties 1 (some .int) 0 := zLv.of (T := TX0) (N := 6) rfl q382 q383 q384 q7 q385 (by decide +kernel)
theorem lk_X0_52 : zLv RX0 52 0 yX0_allKnots cX0_allKnots 1 (some .int) 0 := zLv.of (T := TX0) (N := 6) rfl q386 q263 q264 q7 q265 (by decide +kernel)
theorem lk_X0_55 : zLv RX0 55 0 yX0_allLoops cX0_allLoops 1 (some .int) 0 := zLv.of (T := TX0) (N := 6) rfl q387 q274 q275 q7 q276 (by decide +kernel)
theorem lk_X4_162 : zLv RX4 162 0 yX0_allLoops cX0_allLoops 1 (some .int) 0 := zLv.of (T := TX0) (N := 6) rfl q388 q274 q275 q7 q276 (by decide +kernel)
theorem lk_L_24 : zLs RL 24 yL_number cL_number 4 (some .int) 1 := zLs.of q390 q391 q4 q392 (by decide +kernel)
theorem lk_L_27 : zLs RL 27 yL_ties cL_ties 16 (some .boolean) 3 := zLs.of q393 q394 q4 q395 (by decide +kernel)
theorem lk_L_31 : zLv RL 31 4 yX4_whyNot cX4_whyNot 4 (some .int) 2 := zLv.of (T := TX4) (N := 8) rfl q396 q397 q398 q5 q399 (by decide +kernel)
theorem lk_X4_57 : zLs RX4 57 yX4_checkNumber cX4_checkNumber 1 none 1 := zLs.of q400 q401 q5 q402 (by decide +kernel)
theorem lk_X4_218 : zLv RX4 218 0 yX0_refusalOfPart cX0_refusalOfPart 3 (some .int) 2 := zLv.of (T := TX0) (N := 6) rfl q405 q406 q407 q7 q408 (by decide +kernel)
theorem lk_X0_66 : zLv RX0 66 0 yX0_refusal cX0_refusal 9 (some .int) 2 := zLv.of (T := TX0) (N := 6) rfl q409 q410 q411 q7 q412 (by decide +kernel)
theorem lk_X0_59 : zLv RX0 59 0 yX0_loopsFor cX0_loopsFor 3 (some .int) 2 := zLv.of (T := TX0) (N := 6) rfl q414 q416 q2 q7 q417 (by decide +kernel)
theorem lk_X0_63 : zLv RX0 63 0 yX0_tiesAt cX0_tiesAt 2 (some .int) 1 := zLv.of (T := TX0) (N := 6) rfl q418 q419 q420 q7 q421 (by decide +kernel)
theorem lk_L_56 : zLv RL 56 4 yX4_howOften cX4_howOften 5 (some .int) 2 := zLv.of (T := TX4) (N := 8) rfl q422 q423 q424 q5 q425 (by decide +kernel)
theorem lk_X4_221 : zLv RX4 221 0 yX0_copyFrom cX0_copyFrom 2 none 1 := zLv.of (T := TX0) (N := 6) rfl q426 q248 q249 q7 q250 (by decide +kernel)
theorem lk_X4_224 : zLv RX4 224 0 yX0_tieAsPart cX0_tieAsPart 2 none 1 := zLv.of (T := TX0) (N := 6) rfl q427 q428 q429 q7 q430 (by decide +kernel)
theorem lk_X0_69 : zLv RX0 69 0 yX0_tieKnots cX0_tieKnots 7 none 1 := zLv.of (T := TX0) (N := 6) rfl q431 q432 q433 q7 q434 (by decide +kernel)
theorem lk_L_60 : zLv RL 60 4 yX4_tie cX4_tie 4 (some .int) 2 := zLv.of (T := TX4) (N := 8) rfl q436 q437 q438 q5 q439 (by decide +kernel)
theorem lk_X4_65 : zLv RX4 65 1 yX1_tiePart cX1_tiePart 6 (some .int) 2 := zLv.of (T := TX1) (N := 7) rfl q440 q441 q442 q6 q443 (by decide +kernel)
theorem lk_X1_41 : zLv RX1 41 0 yX0_refusalOfPart cX0_refusalOfPart 3 (some .int) 2 := zLv.of (T := TX0) (N := 6) rfl q444 q406 q407 q7 q408 (by decide +kernel)
theorem lk_X1_52 : zLv RX1 52 0 yX0_tieAsPart cX0_tieAsPart 2 none 1 := zLv.of (T := TX0) (N := 6) rfl q445 q428 q429 q7 q430 (by decide +kernel)
theorem lk_X1_56 : zLv RX1 56 1 yX1_countTied cX1_countTied 5 (some .int) 3 := zLv.of (T := TX1) (N := 7) rfl q446 q448 q3 q6 q449 (by decide +kernel)
theorem lk_L_63 : zLv RL 63 4 yX4_part cX4_part 4 (some .int) 2 := zLv.of (T := TX4) (N := 8) rfl q450 q451 q452 q5 q453 (by decide +kernel)
theorem lk_L_34 : zLv RL 34 4 yX4_add cX4_add 5 (some .int) 2 := zLv.of (T := TX4) (N := 8) rfl q455 q456 q457 q5 q458 (by decide +kernel)
theorem lk_X4_76 : zLv RX4 76 1 yX1_tieCord cX1_tieCord 4 (some .int) 2 := zLv.of (T := TX1) (N := 7) rfl q460 q461 q462 q6 q463 (by decide +kernel)
theorem lk_X1_63 : zLv RX1 63 1 yX1_tiePart cX1_tiePart 6 (some .int) 2 := zLv.of (T := TX1) (N := 7) rfl q464 q441 q442 q6 q443 (by decide +kernel)
theorem lk_L_37 : zLv RL 37 4 yX4_placeOf cX4_placeOf 5 (some .int) 3 := zLv.of (T := TX4) (N := 8) rfl q465 q466 q467 q5 q468 (by decide +kernel)
theorem lk_X4_80 : zLs RX4 80 yX4_checkPlace cX4_checkPlace 1 none 1 := zLs.of q469 q470 q5 q471 (by decide +kernel)
theorem lk_X4_176 : zLv RX4 176 0 yX0_open cX0_open 2 (some .int) 1 := zLv.of (T := TX0) (N := 6) rfl q473 q327 q328 q7 q329 (by decide +kernel)
theorem lk_X4_180 : zLv RX4 180 0 yX0_tiesAt cX0_tiesAt 2 (some .int) 1 := zLv.of (T := TX0) (N := 6) rfl q474 q419 q420 q7 q421 (by decide +kernel)
theorem lk_X4_183 : zLs RX4 183 yJ9_max_7cf53 cJ9_max_7cf53 2 (some .int) 2 := zLs.of q475 q476 q14 q477 (by decide +kernel)
theorem lk_L_41 : zLv RL 41 4 yX4_slip cX4_slip 4 (some .int) 2 := zLv.of (T := TX4) (N := 8) rfl q479 q480 q481 q5 q482 (by decide +kernel)
theorem lk_X4_83 : zLv RX4 83 1 yX1_loosen cX1_loosen 3 (some .int) 2 := zLv.of (T := TX1) (N := 7) rfl q483 q484 q485 q6 q486 (by decide +kernel)
theorem lk_X1_76 : zLv RX1 76 0 yX0_open cX0_open 2 (some .int) 1 := zLv.of (T := TX0) (N := 6) rfl q487 q327 q328 q7 q329 (by decide +kernel)
theorem lk_L_44 : zLv RL 44 4 yX4_mend cX4_mend 3 (some .int) 1 := zLv.of (T := TX4) (N := 8) rfl q488 q489 q490 q5 q491 (by decide +kernel)
theorem lk_X4_86 : zLv RX4 86 1 yX1_tieLack cX1_tieLack 6 (some .int) 1 := zLv.of (T := TX1) (N := 7) rfl q492 q493 q494 q6 q495 (by decide +kernel)
theorem lk_X1_70 : zLv RX1 70 0 yX0_refusal cX0_refusal 9 (some .int) 2 := zLv.of (T := TX0) (N := 6) rfl q496 q410 q411 q7 q412 (by decide +kernel)
theorem lk_X1_73 : zLv RX1 73 0 yX0_tieKnots cX0_tieKnots 7 none 1 := zLv.of (T := TX0) (N := 6) rfl q497 q432 q433 q7 q434 (by decide +kernel)
theorem lk_L_47 : zLv RL 47 4 yX4_renew cX4_renew 3 (some .int) 1 := zLv.of (T := TX4) (N := 8) rfl q498 q499 q500 q5 q501 (by decide +kernel)
theorem lk_X4_90 : zLv RX4 90 1 yX1_replace cX1_replace 3 (some .int) 1 := zLv.of (T := TX1) (N := 7) rfl q502 q503 q504 q6 q505 (by decide +kernel)
theorem lk_X1_85 : zLv RX1 85 0 yX0_ties cX0_ties 1 (some .int) 0 := zLv.of (T := TX0) (N := 6) rfl q506 q383 q384 q7 q385 (by decide +kernel)
theorem lk_X1_88 : zLv RX1 88 0 yX0_becomeNew cX0_becomeNew 2 none 0 := zLv.of (T := TX0) (N := 6) rfl q507 q508 q509 q7 q510 (by decide +kernel)
theorem lk_L_50 : zLv RL 50 4 yX4_dye cX4_dye 5 (some .int) 2 := zLv.of (T := TX4) (N := 8) rfl q511 q512 q513 q5 q514 (by decide +kernel)
theorem lk_X4_93 : zLs RX4 93 yX4_checkHue cX4_checkHue 1 none 1 := zLs.of q515 q516 q5 q517 (by decide +kernel)
theorem lk_L_53 : zLv RL 53 4 yX4_set cX4_set 3 (some .int) 1 := zLv.of (T := TX4) (N := 8) rfl q519 q520 q521 q5 q522 (by decide +kernel)
theorem lk_L_88 : zLs RL 88 yL_holds cL_holds 15 (some .boolean) 2 := zLs.of q524 q525 q4 q526 (by decide +kernel)
theorem lk_L_66 : zLs RL 66 yL_isCord cL_isCord 13 (some .boolean) 2 := zLs.of q527 q528 q4 q529 (by decide +kernel)
theorem lk_L_70 : zLv RL 70 4 yX4_byHue cX4_byHue 2 (some .int) 1 := zLv.of (T := TX4) (N := 8) rfl q530 q531 q532 q5 q533 (by decide +kernel)
theorem lk_X4_215 : zLv RX4 215 1 yX1_toldInHue cX1_toldInHue 7 (some .int) 1 := zLv.of (T := TX1) (N := 7) rfl q534 q535 q536 q6 q537 (by decide +kernel)
theorem lk_L_73 : zLv RL 73 4 yX4_fullest cX4_fullest 1 (some .int) 0 := zLv.of (T := TX4) (N := 8) rfl q538 q539 q540 q5 q541 (by decide +kernel)
theorem lk_X4_244 : zLv RX4 244 1 yX1_fullestCord cX1_fullestCord 3 (some .int) 0 := zLv.of (T := TX1) (N := 7) rfl q542 q543 q544 q6 q545 (by decide +kernel)
theorem lk_L_77 : zLv RL 77 4 yX4_closedShare cX4_closedShare 2 (some .double) 0 := zLv.of (T := TX4) (N := 8) rfl q546 q547 q548 q5 q549 (by decide +kernel)
theorem lk_X4_247 : zLv RX4 247 1 yX1_knots cX1_knots 6 (some .int) 0 := zLv.of (T := TX1) (N := 7) rfl q550 q259 q260 q6 q261 (by decide +kernel)
theorem lk_X4_249 : zLv RX4 249 1 yX1_loops cX1_loops 6 (some .int) 0 := zLv.of (T := TX1) (N := 7) rfl q551 q270 q271 q6 q272 (by decide +kernel)
theorem lk_L_81 : zLs RL 81 yL_bits cL_bits 3 (some .int) 1 := zLs.of q552 q553 q4 q554 (by decide +kernel)
theorem lk_L_84 : zLv RL 84 4 yX4_cordsFor cX4_cordsFor 3 (some .int) 2 := zLv.of (T := TX4) (N := 8) rfl q555 q556 q557 q5 q558 (by decide +kernel)
theorem lk_X4_232 : zLv RX4 232 1 yX1_tellEach cX1_tellEach 3 none 1 := zLv.of (T := TX1) (N := 7) rfl q562 q563 q564 q6 q565 (by decide +kernel)
theorem lk_X4_236 : zLs RX4 236 yX4_bestOfAllSets cX4_bestOfAllSets 4 (some .int) 2 := zLs.of q566 q567 q5 q568 (by decide +kernel)
theorem lk_X4_309 : zLs RX4 309 yX4_toldBySet cX4_toldBySet 4 (some .int) 2 := zLs.of q569 q570 q5 q571 (by decide +kernel)
theorem lk_X4_312 : zLs RX4 312 yX4_better cX4_better 3 (some .int) 2 := zLs.of q572 q573 q5 q574 (by decide +kernel)
theorem lk_X4_315 : zLs RX4 315 yJ6_bitCount_0f7a4 cJ6_bitCount_0f7a4 1 (some .int) 1 := zLs.of q575 q576 q16 q577 (by decide +kernel)
theorem lk_X4_320 : zLs RX4 320 yJ6_compare_7cf53 cJ6_compare_7cf53 2 (some .int) 2 := zLs.of q581 q582 q16 q583 (by decide +kernel)
theorem lk_X4_240 : zLs RX4 240 yX4_bestByTrying cX4_bestByTrying 6 (some .int) 5 := zLs.of q584 q585 q5 q586 (by decide +kernel)
