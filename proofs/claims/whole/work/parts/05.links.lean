theorem fd_X0_9 : zFd RX0 9 0 0 := ⟨RX0, TX0, 6, rfl, ziX0, by decide, q89⟩
theorem fp_X0_9 : zFp RX0 9 0 0 (.array .int) true := ⟨RX0, TX0, 6, tyX0, rfl, ziX0, tyX0_ok, nmX0, by decide, q89, rfl, by decide +kernel, rfl⟩
theorem fd_X1_80 : zFd RX1 80 0 0 := ⟨RX0, TX0, 6, rfl, ziX0, by decide, q90⟩
theorem fp_X1_80 : zFp RX1 80 0 0 (.array .int) true := ⟨RX0, TX0, 6, tyX0, rfl, ziX0, tyX0_ok, nmX0, by decide, q90, rfl, by decide +kernel, rfl⟩
theorem fd_X4_163 : zFd RX4 163 0 0 := ⟨RX0, TX0, 6, rfl, ziX0, by decide, q91⟩
theorem fp_X4_163 : zFp RX4 163 0 0 (.array .int) true := ⟨RX0, TX0, 6, tyX0, rfl, ziX0, tyX0_ok, nmX0, by decide, q91, rfl, by decide +kernel, rfl⟩
theorem fd_X0_15 : zFd RX0 15 0 1 := ⟨RX0, TX0, 6, rfl, ziX0, by decide, q92⟩
theorem fp_X0_15 : zFp RX0 15 0 1 (.array .int) true := ⟨RX0, TX0, 6, tyX0, rfl, ziX0, tyX0_ok, nmX0, by decide, q92, rfl, by decide +kernel, rfl⟩
theorem fd_X4_166 : zFd RX4 166 0 1 := ⟨RX0, TX0, 6, rfl, ziX0, by decide, q93⟩
theorem fp_X4_166 : zFp RX4 166 0 1 (.array .int) true := ⟨RX0, TX0, 6, tyX0, rfl, ziX0, tyX0_ok, nmX0, by decide, q93, rfl, by decide +kernel, rfl⟩
theorem fd_X0_18 : zFd RX0 18 0 2 := ⟨RX0, TX0, 6, rfl, ziX0, by decide, q94⟩
theorem fp_X0_18 : zFp RX0 18 0 2 (.array .int) true := ⟨RX0, TX0, 6, tyX0, rfl, ziX0, tyX0_ok, nmX0, by decide, q94, rfl, by decide +kernel, rfl⟩
theorem fd_X4_186 : zFd RX4 186 0 2 := ⟨RX0, TX0, 6, rfl, ziX0, by decide, q95⟩
theorem fp_X4_186 : zFp RX4 186 0 2 (.array .int) true := ⟨RX0, TX0, 6, tyX0, rfl, ziX0, tyX0_ok, nmX0, by decide, q95, rfl, by decide +kernel, rfl⟩
theorem fd_X0_21 : zFd RX0 21 0 3 := ⟨RX0, TX0, 6, rfl, ziX0, by decide, q96⟩
theorem fp_X0_21 : zFp RX0 21 0 3 .int false := ⟨RX0, TX0, 6, tyX0, rfl, ziX0, tyX0_ok, nmX0, by decide, q96, rfl, by decide +kernel, rfl⟩
theorem fd_X4_148 : zFd RX4 148 0 3 := ⟨RX0, TX0, 6, rfl, ziX0, by decide, q97⟩
theorem fp_X4_148 : zFp RX4 148 0 3 .int false := ⟨RX0, TX0, 6, tyX0, rfl, ziX0, tyX0_ok, nmX0, by decide, q97, rfl, by decide +kernel, rfl⟩
theorem fd_X0_25 : zFd RX0 25 0 4 := ⟨RX0, TX0, 6, rfl, ziX0, by decide, q98⟩
theorem fp_X0_25 : zFp RX0 25 0 4 .int false := ⟨RX0, TX0, 6, tyX0, rfl, ziX0, tyX0_ok, nmX0, by decide, q98, rfl, by decide +kernel, rfl⟩
theorem fd_X4_96 : zFd RX4 96 0 4 := ⟨RX0, TX0, 6, rfl, ziX0, by decide, q99⟩
theorem fp_X4_96 : zFp RX4 96 0 4 .int false := ⟨RX0, TX0, 6, tyX0, rfl, ziX0, tyX0_ok, nmX0, by decide, q99, rfl, by decide +kernel, rfl⟩
theorem fd_X1_91 : zFd RX1 91 0 4 := ⟨RX0, TX0, 6, rfl, ziX0, by decide, q100⟩
theorem fp_X1_91 : zFp RX1 91 0 4 .int false := ⟨RX0, TX0, 6, tyX0, rfl, ziX0, tyX0_ok, nmX0, by decide, q100, rfl, by decide +kernel, rfl⟩
theorem fd_X0_28 : zFd RX0 28 0 5 := ⟨RX0, TX0, 6, rfl, ziX0, by decide, q101⟩
theorem fp_X0_28 : zFp RX0 28 0 5 .int false := ⟨RX0, TX0, 6, tyX0, rfl, ziX0, tyX0_ok, nmX0, by decide, q101, rfl, by decide +kernel, rfl⟩
theorem fd_X1_84 : zFd RX1 84 0 5 := ⟨RX0, TX0, 6, rfl, ziX0, by decide, q102⟩
theorem fp_X1_84 : zFp RX1 84 0 5 .int false := ⟨RX0, TX0, 6, tyX0, rfl, ziX0, tyX0_ok, nmX0, by decide, q102, rfl, by decide +kernel, rfl⟩
theorem fd_X4_158 : zFd RX4 158 0 5 := ⟨RX0, TX0, 6, rfl, ziX0, by decide, q103⟩
theorem fp_X4_158 : zFp RX4 158 0 5 .int false := ⟨RX0, TX0, 6, tyX0, rfl, ziX0, tyX0_ok, nmX0, by decide, q103, rfl, by decide +kernel, rfl⟩
theorem fd_X1_11 : zFd RX1 11 1 0 := ⟨RX1, TX1, 7, rfl, ziX1, by decide, q118⟩
theorem fp_X1_11 : zFp RX1 11 1 0 (.array (.object "HerdCords$Cord")) true := ⟨RX1, TX1, 7, tyX1, rfl, ziX1, tyX1_ok, nmX1, by decide, q118, rfl, by decide +kernel, rfl⟩
theorem fd_X4_279 : zFd RX4 279 1 0 := ⟨RX1, TX1, 7, rfl, ziX1, by decide, q119⟩
theorem fp_X4_279 : zFp RX4 279 1 0 (.array (.object "HerdCords$Cord")) true := ⟨RX1, TX1, 7, tyX1, rfl, ziX1, tyX1_ok, nmX1, by decide, q119, rfl, by decide +kernel, rfl⟩
theorem fd_X1_17 : zFd RX1 17 1 1 := ⟨RX1, TX1, 7, rfl, ziX1, by decide, q120⟩
theorem fp_X1_17 : zFp RX1 17 1 1 .int false := ⟨RX1, TX1, 7, tyX1, rfl, ziX1, tyX1_ok, nmX1, by decide, q120, rfl, by decide +kernel, rfl⟩
theorem fd_X4_101 : zFd RX4 101 1 1 := ⟨RX1, TX1, 7, rfl, ziX1, by decide, q121⟩
theorem fp_X4_101 : zFp RX4 101 1 1 .int false := ⟨RX1, TX1, 7, tyX1, rfl, ziX1, tyX1_ok, nmX1, by decide, q121, rfl, by decide +kernel, rfl⟩
theorem fd_X1_21 : zFd RX1 21 1 2 := ⟨RX1, TX1, 7, rfl, ziX1, by decide, q122⟩
theorem fp_X1_21 : zFp RX1 21 1 2 .int false := ⟨RX1, TX1, 7, tyX1, rfl, ziX1, tyX1_ok, nmX1, by decide, q122, rfl, by decide +kernel, rfl⟩
theorem fd_X4_190 : zFd RX4 190 1 2 := ⟨RX1, TX1, 7, rfl, ziX1, by decide, q123⟩
theorem fp_X4_190 : zFp RX4 190 1 2 .int false := ⟨RX1, TX1, 7, tyX1, rfl, ziX1, tyX1_ok, nmX1, by decide, q123, rfl, by decide +kernel, rfl⟩
theorem fd_X1_24 : zFd RX1 24 1 3 := ⟨RX1, TX1, 7, rfl, ziX1, by decide, q124⟩
theorem fp_X1_24 : zFp RX1 24 1 3 .int false := ⟨RX1, TX1, 7, tyX1, rfl, ziX1, tyX1_ok, nmX1, by decide, q124, rfl, by decide +kernel, rfl⟩
theorem fd_X4_193 : zFd RX4 193 1 3 := ⟨RX1, TX1, 7, rfl, ziX1, by decide, q125⟩
theorem fp_X4_193 : zFp RX4 193 1 3 .int false := ⟨RX1, TX1, 7, tyX1, rfl, ziX1, tyX1_ok, nmX1, by decide, q125, rfl, by decide +kernel, rfl⟩
theorem fd_X1_27 : zFd RX1 27 1 4 := ⟨RX1, TX1, 7, rfl, ziX1, by decide, q126⟩
theorem fp_X1_27 : zFp RX1 27 1 4 .int false := ⟨RX1, TX1, 7, tyX1, rfl, ziX1, tyX1_ok, nmX1, by decide, q126, rfl, by decide +kernel, rfl⟩
theorem fd_X4_196 : zFd RX4 196 1 4 := ⟨RX1, TX1, 7, rfl, ziX1, by decide, q127⟩
theorem fp_X4_196 : zFp RX4 196 1 4 .int false := ⟨RX1, TX1, 7, tyX1, rfl, ziX1, tyX1_ok, nmX1, by decide, q127, rfl, by decide +kernel, rfl⟩
theorem fd_X1_30 : zFd RX1 30 1 5 := ⟨RX1, TX1, 7, rfl, ziX1, by decide, q128⟩
theorem fp_X1_30 : zFp RX1 30 1 5 .int false := ⟨RX1, TX1, 7, tyX1, rfl, ziX1, tyX1_ok, nmX1, by decide, q128, rfl, by decide +kernel, rfl⟩
theorem fd_X4_197 : zFd RX4 197 1 5 := ⟨RX1, TX1, 7, rfl, ziX1, by decide, q129⟩
theorem fp_X4_197 : zFp RX4 197 1 5 .int false := ⟨RX1, TX1, 7, tyX1, rfl, ziX1, tyX1_ok, nmX1, by decide, q129, rfl, by decide +kernel, rfl⟩
theorem fd_X1_33 : zFd RX1 33 1 6 := ⟨RX1, TX1, 7, rfl, ziX1, by decide, q130⟩
theorem fp_X1_33 : zFp RX1 33 1 6 .int false := ⟨RX1, TX1, 7, tyX1, rfl, ziX1, tyX1_ok, nmX1, by decide, q130, rfl, by decide +kernel, rfl⟩
theorem fd_X4_200 : zFd RX4 200 1 6 := ⟨RX1, TX1, 7, rfl, ziX1, by decide, q131⟩
theorem fp_X4_200 : zFp RX4 200 1 6 .int false := ⟨RX1, TX1, 7, tyX1, rfl, ziX1, tyX1_ok, nmX1, by decide, q131, rfl, by decide +kernel, rfl⟩
theorem fd_X2_11 : zFd RX2 11 2 0 := ⟨RX2, TX2, 3, rfl, ziX2, by decide, q156⟩
theorem fp_X2_11 : zFp RX2 11 2 0 (.array (.object "HerdCords$Herd")) true := ⟨RX2, TX2, 3, tyX2, rfl, ziX2, tyX2_ok, nmX2, by decide, q156, rfl, by decide +kernel, rfl⟩
theorem fd_X2_17 : zFd RX2 17 2 1 := ⟨RX2, TX2, 3, rfl, ziX2, by decide, q157⟩
theorem fp_X2_17 : zFp RX2 17 2 1 .int false := ⟨RX2, TX2, 3, tyX2, rfl, ziX2, tyX2_ok, nmX2, by decide, q157, rfl, by decide +kernel, rfl⟩
theorem fd_X2_21 : zFd RX2 21 2 2 := ⟨RX2, TX2, 3, rfl, ziX2, by decide, q158⟩
theorem fp_X2_21 : zFp RX2 21 2 2 .int false := ⟨RX2, TX2, 3, tyX2, rfl, ziX2, tyX2_ok, nmX2, by decide, q158, rfl, by decide +kernel, rfl⟩
theorem fd_X4_135 : zFd RX4 135 2 2 := ⟨RX2, TX2, 3, rfl, ziX2, by decide, q159⟩
theorem fp_X4_135 : zFp RX4 135 2 2 .int false := ⟨RX2, TX2, 3, tyX2, rfl, ziX2, tyX2_ok, nmX2, by decide, q159, rfl, by decide +kernel, rfl⟩
theorem fd_X3_11 : zFd RX3 11 3 0 := ⟨RX3, TX3, 5, rfl, ziX3, by decide, q173⟩
theorem fp_X3_11 : zFp RX3 11 3 0 .int false := ⟨RX3, TX3, 5, tyX3, rfl, ziX3, tyX3_ok, nmX3, by decide, q173, rfl, by decide +kernel, rfl⟩
theorem fd_X3_15 : zFd RX3 15 3 1 := ⟨RX3, TX3, 5, rfl, ziX3, by decide, q174⟩
theorem fp_X3_15 : zFp RX3 15 3 1 .int false := ⟨RX3, TX3, 5, tyX3, rfl, ziX3, tyX3_ok, nmX3, by decide, q174, rfl, by decide +kernel, rfl⟩
theorem fd_X3_18 : zFd RX3 18 3 2 := ⟨RX3, TX3, 5, rfl, ziX3, by decide, q175⟩
theorem fp_X3_18 : zFp RX3 18 3 2 .int false := ⟨RX3, TX3, 5, tyX3, rfl, ziX3, tyX3_ok, nmX3, by decide, q175, rfl, by decide +kernel, rfl⟩
theorem fd_X4_302 : zFd RX4 302 3 2 := ⟨RX3, TX3, 5, rfl, ziX3, by decide, q176⟩
theorem fp_X4_302 : zFp RX4 302 3 2 .int false := ⟨RX3, TX3, 5, tyX3, rfl, ziX3, tyX3_ok, nmX3, by decide, q176, rfl, by decide +kernel, rfl⟩
theorem fd_X3_21 : zFd RX3 21 3 3 := ⟨RX3, TX3, 5, rfl, ziX3, by decide, q177⟩
theorem fp_X3_21 : zFp RX3 21 3 3 .char false := ⟨RX3, TX3, 5, tyX3, rfl, ziX3, tyX3_ok, nmX3, by decide, q177, rfl, by decide +kernel, rfl⟩
theorem fd_X4_305 : zFd RX4 305 3 3 := ⟨RX3, TX3, 5, rfl, ziX3, by decide, q178⟩
theorem fp_X4_305 : zFp RX4 305 3 3 .char false := ⟨RX3, TX3, 5, tyX3, rfl, ziX3, tyX3_ok, nmX3, by decide, q178, rfl, by decide +kernel, rfl⟩
theorem fd_X3_25 : zFd RX3 25 3 4 := ⟨RX3, TX3, 5, rfl, ziX3, by decide, q179⟩
theorem fp_X3_25 : zFp RX3 25 3 4 .int false := ⟨RX3, TX3, 5, tyX3, rfl, ziX3, tyX3_ok, nmX3, by decide, q179, rfl, by decide +kernel, rfl⟩
theorem fd_X4_309 : zFd RX4 309 3 4 := ⟨RX3, TX3, 5, rfl, ziX3, by decide, q180⟩
theorem fp_X4_309 : zFp RX4 309 3 4 .int false := ⟨RX3, TX3, 5, tyX3, rfl, ziX3, tyX3_ok, nmX3, by decide, q180, rfl, by decide +kernel, rfl⟩
theorem fd_X4_10 : zFd RX4 10 4 0 := ⟨RX4, TX4, 8, rfl, ziX4, by decide, q195⟩
theorem fp_X4_10 : zFp RX4 10 4 0 (.object "HerdCords$Herd") true := ⟨RX4, TX4, 8, tyX4, rfl, ziX4, tyX4_ok, nmX4, by decide, q195, rfl, by decide +kernel, rfl⟩
theorem fd_X4_19 : zFd RX4 19 4 1 := ⟨RX4, TX4, 8, rfl, ziX4, by decide, q196⟩
theorem fp_X4_19 : zFp RX4 19 4 1 (.object "HerdCords$History") true := ⟨RX4, TX4, 8, tyX4, rfl, ziX4, tyX4_ok, nmX4, by decide, q196, rfl, by decide +kernel, rfl⟩
theorem fd_X4_23 : zFd RX4 23 4 2 := ⟨RX4, TX4, 8, rfl, ziX4, by decide, q197⟩
theorem fp_X4_23 : zFp RX4 23 4 2 (.array (.object "HerdCords$Herd")) true := ⟨RX4, TX4, 8, tyX4, rfl, ziX4, tyX4_ok, nmX4, by decide, q197, rfl, by decide +kernel, rfl⟩
theorem fd_X4_27 : zFd RX4 27 4 3 := ⟨RX4, TX4, 8, rfl, ziX4, by decide, q198⟩
theorem fp_X4_27 : zFp RX4 27 4 3 (.array .char) true := ⟨RX4, TX4, 8, tyX4, rfl, ziX4, tyX4_ok, nmX4, by decide, q198, rfl, by decide +kernel, rfl⟩
theorem fd_X4_31 : zFd RX4 31 4 4 := ⟨RX4, TX4, 8, rfl, ziX4, by decide, q199⟩
theorem fp_X4_31 : zFp RX4 31 4 4 .int false := ⟨RX4, TX4, 8, tyX4, rfl, ziX4, tyX4_ok, nmX4, by decide, q199, rfl, by decide +kernel, rfl⟩
theorem fd_X4_38 : zFd RX4 38 4 5 := ⟨RX4, TX4, 8, rfl, ziX4, by decide, q200⟩
theorem fp_X4_38 : zFp RX4 38 4 5 (.object "HerdCords$OrderReader") true := ⟨RX4, TX4, 8, tyX4, rfl, ziX4, tyX4_ok, nmX4, by decide, q200, rfl, by decide +kernel, rfl⟩
theorem fd_X4_45 : zFd RX4 45 4 6 := ⟨RX4, TX4, 8, rfl, ziX4, by decide, q201⟩
theorem fp_X4_45 : zFp RX4 45 4 6 (.object "HerdCords$Cord") true := ⟨RX4, TX4, 8, tyX4, rfl, ziX4, tyX4_ok, nmX4, by decide, q201, rfl, by decide +kernel, rfl⟩
theorem fd_X4_49 : zFd RX4 49 4 7 := ⟨RX4, TX4, 8, rfl, ziX4, by decide, q202⟩
theorem fp_X4_49 : zFp RX4 49 4 7 (.array .int) true := ⟨RX4, TX4, 8, tyX4, rfl, ziX4, tyX4_ok, nmX4, by decide, q202, rfl, by decide +kernel, rfl⟩
theorem fd_X5_35 : zFd RX5 35 5 0 := ⟨RX5, TX5, 12, rfl, ziX5, by decide, q777⟩
theorem fp_X5_35 : zFp RX5 35 5 0 .int false := ⟨RX5, TX5, 12, tyX5, rfl, ziX5, tyX5_ok, nmX5, by decide, q777, rfl, by decide +kernel, rfl⟩
theorem fd_X5_7 : zFd RX5 7 5 1 := ⟨RX5, TX5, 12, rfl, ziX5, by decide, q778⟩
theorem fp_X5_7 : zFp RX5 7 5 1 (.array .int) true := ⟨RX5, TX5, 12, tyX5, rfl, ziX5, tyX5_ok, nmX5, by decide, q778, rfl, by decide +kernel, rfl⟩
theorem fd_X5_13 : zFd RX5 13 5 2 := ⟨RX5, TX5, 12, rfl, ziX5, by decide, q779⟩
theorem fp_X5_13 : zFp RX5 13 5 2 (.array .int) true := ⟨RX5, TX5, 12, tyX5, rfl, ziX5, tyX5_ok, nmX5, by decide, q779, rfl, by decide +kernel, rfl⟩
theorem fd_X5_16 : zFd RX5 16 5 3 := ⟨RX5, TX5, 12, rfl, ziX5, by decide, q780⟩
theorem fp_X5_16 : zFp RX5 16 5 3 (.array .int) true := ⟨RX5, TX5, 12, tyX5, rfl, ziX5, tyX5_ok, nmX5, by decide, q780, rfl, by decide +kernel, rfl⟩
theorem fd_X5_19 : zFd RX5 19 5 4 := ⟨RX5, TX5, 12, rfl, ziX5, by decide, q781⟩
theorem fp_X5_19 : zFp RX5 19 5 4 (.array .boolean) true := ⟨RX5, TX5, 12, tyX5, rfl, ziX5, tyX5_ok, nmX5, by decide, q781, rfl, by decide +kernel, rfl⟩
theorem fd_X5_23 : zFd RX5 23 5 5 := ⟨RX5, TX5, 12, rfl, ziX5, by decide, q782⟩
theorem fp_X5_23 : zFp RX5 23 5 5 (.array .int) true := ⟨RX5, TX5, 12, tyX5, rfl, ziX5, tyX5_ok, nmX5, by decide, q782, rfl, by decide +kernel, rfl⟩
theorem fd_X5_47 : zFd RX5 47 5 6 := ⟨RX5, TX5, 12, rfl, ziX5, by decide, q783⟩
theorem fp_X5_47 : zFp RX5 47 5 6 .int false := ⟨RX5, TX5, 12, tyX5, rfl, ziX5, tyX5_ok, nmX5, by decide, q783, rfl, by decide +kernel, rfl⟩
theorem fd_X5_26 : zFd RX5 26 5 7 := ⟨RX5, TX5, 12, rfl, ziX5, by decide, q784⟩
theorem fp_X5_26 : zFp RX5 26 5 7 (.array .int) true := ⟨RX5, TX5, 12, tyX5, rfl, ziX5, tyX5_ok, nmX5, by decide, q784, rfl, by decide +kernel, rfl⟩
theorem fd_X5_104 : zFd RX5 104 5 8 := ⟨RX5, TX5, 12, rfl, ziX5, by decide, q785⟩
theorem fp_X5_104 : zFp RX5 104 5 8 .int false := ⟨RX5, TX5, 12, tyX5, rfl, ziX5, tyX5_ok, nmX5, by decide, q785, rfl, by decide +kernel, rfl⟩
theorem fd_X5_29 : zFd RX5 29 5 9 := ⟨RX5, TX5, 12, rfl, ziX5, by decide, q786⟩
theorem fp_X5_29 : zFp RX5 29 5 9 (.array .int) true := ⟨RX5, TX5, 12, tyX5, rfl, ziX5, tyX5_ok, nmX5, by decide, q786, rfl, by decide +kernel, rfl⟩
theorem fd_X5_32 : zFd RX5 32 5 10 := ⟨RX5, TX5, 12, rfl, ziX5, by decide, q787⟩
theorem fp_X5_32 : zFp RX5 32 5 10 (.array .int) true := ⟨RX5, TX5, 12, tyX5, rfl, ziX5, tyX5_ok, nmX5, by decide, q787, rfl, by decide +kernel, rfl⟩
theorem fd_X5_185 : zFd RX5 185 5 11 := ⟨RX5, TX5, 12, rfl, ziX5, by decide, q788⟩
theorem fp_X5_185 : zFp RX5 185 5 11 .long false := ⟨RX5, TX5, 12, tyX5, rfl, ziX5, tyX5_ok, nmX5, by decide, q788, rfl, by decide +kernel, rfl⟩
theorem lk_L_114 : zLv RL 114 4 yX4_clearBuffer cX4_clearBuffer 2 (some .int) 0 := zLv.of (T := TX4) (N := 8) rfl q220 q221 q222 q53 q223 (by decide +kernel)
theorem lk_L_118 : zLv RL 118 4 yX4_firstError cX4_firstError 1 (some .int) 0 := zLv.of (T := TX4) (N := 8) rfl q224 q225 q226 q53 q227 (by decide +kernel)
theorem lk_X4_111 : zLv RX4 111 4 yX4_readBuffer cX4_readBuffer 2 (some .int) 0 := zLv.of (T := TX4) (N := 8) rfl q228 q230 q0 q53 q231 (by decide +kernel)
theorem lk_X4_292 : zLv RX4 292 3 yX3_begin cX3_begin 1 none 0 := zLv.of (T := TX3) (N := 5) rfl q232 q233 q234 q57 q235 (by decide +kernel)
theorem lk_X4_295 : zLv RX4 295 3 yX3_takes cX3_takes 2 (some .boolean) 1 := zLv.of (T := TX3) (N := 5) rfl q236 q237 q238 q57 q239 (by decide +kernel)
theorem lk_X3_28 : zLv RX3 28 3 yX3_takesCord cX3_takesCord 2 (some .boolean) 1 := zLv.of (T := TX3) (N := 5) rfl q240 q242 q1 q57 q243 (by decide +kernel)
theorem lk_X3_32 : zLv RX3 32 3 yX3_takesKind cX3_takesKind 2 (some .boolean) 1 := zLv.of (T := TX3) (N := 5) rfl q244 q246 q2 q57 q247 (by decide +kernel)
theorem lk_X3_36 : zLv RX3 36 3 yX3_takesValue cX3_takesValue 2 (some .boolean) 1 := zLv.of (T := TX3) (N := 5) rfl q248 q250 q3 q57 q251 (by decide +kernel)
theorem lk_X3_46 : zLv RX3 46 3 yX3_mayBeginValue cX3_mayBeginValue 2 (some .boolean) 1 := zLv.of (T := TX3) (N := 5) rfl q252 q254 q4 q57 q255 (by decide +kernel)
theorem lk_X3_39 : zLv RX3 39 3 yX3_takesBetween cX3_takesBetween 1 (some .boolean) 0 := zLv.of (T := TX3) (N := 5) rfl q256 q258 q5 q57 q259 (by decide +kernel)
theorem lk_X3_43 : zLv RX3 43 3 yX3_takesDigit cX3_takesDigit 2 (some .boolean) 1 := zLv.of (T := TX3) (N := 5) rfl q260 q262 q6 q57 q263 (by decide +kernel)
theorem lk_L_160 : zLv RL 160 4 yX4_fullest cX4_fullest 1 (some .int) 0 := zLv.of (T := TX4) (N := 8) rfl q264 q265 q266 q53 q267 (by decide +kernel)
theorem lk_X4_237 : zLv RX4 237 1 yX1_fullestCord cX1_fullestCord 3 (some .int) 0 := zLv.of (T := TX1) (N := 7) rfl q268 q269 q270 q54 q271 (by decide +kernel)
theorem lk_X1_85 : zLv RX1 85 0 yX0_ties cX0_ties 1 (some .int) 0 := zLv.of (T := TX0) (N := 6) rfl q272 q273 q274 q55 q275 (by decide +kernel)
theorem lk_X0_52 : zLv RX0 52 0 yX0_allKnots cX0_allKnots 1 (some .int) 0 := zLv.of (T := TX0) (N := 6) rfl q276 q277 q278 q55 q279 (by decide +kernel)
theorem lk_X0_41 : zLs RX0 41 yX0_sumOf cX0_sumOf 4 (some .int) 2 := zLs.of q280 q281 q55 q282 (by decide +kernel)
theorem lk_X0_55 : zLv RX0 55 0 yX0_allLoops cX0_allLoops 1 (some .int) 0 := zLv.of (T := TX0) (N := 6) rfl q283 q284 q285 q55 q286 (by decide +kernel)
theorem lk_L_164 : zLv RL 164 4 yX4_closedShare cX4_closedShare 2 (some .double) 0 := zLv.of (T := TX4) (N := 8) rfl q287 q288 q289 q53 q290 (by decide +kernel)
theorem lk_X4_240 : zLv RX4 240 1 yX1_knots cX1_knots 6 (some .int) 0 := zLv.of (T := TX1) (N := 7) rfl q291 q292 q293 q54 q294 (by decide +kernel)
theorem lk_X1_45 : zLv RX1 45 0 yX0_allKnots cX0_allKnots 1 (some .int) 0 := zLv.of (T := TX0) (N := 6) rfl q295 q277 q278 q55 q279 (by decide +kernel)
theorem lk_X4_242 : zLv RX4 242 1 yX1_loops cX1_loops 6 (some .int) 0 := zLv.of (T := TX1) (N := 7) rfl q296 q297 q298 q54 q299 (by decide +kernel)
theorem lk_X1_49 : zLv RX1 49 0 yX0_allLoops cX0_allLoops 1 (some .int) 0 := zLv.of (T := TX0) (N := 6) rfl q300 q284 q285 q55 q286 (by decide +kernel)
theorem lk_L_169 : zLv RL 169 4 yX4_digest cX4_digest 4 (some .long) 0 := zLv.of (T := TX4) (N := 8) rfl q301 q302 q303 q53 q304 (by decide +kernel)
theorem lk_X4_246 : zLv RX4 246 4 yX4_count cX4_count 2 (some .int) 1 := zLv.of (T := TX4) (N := 8) rfl q306 q307 q308 q53 q309 (by decide +kernel)
theorem lk_X4_189 : zLv RX4 189 1 yX1_told cX1_told 6 (some .int) 0 := zLv.of (T := TX1) (N := 7) rfl q310 q311 q312 q54 q313 (by decide +kernel)
theorem lk_X1_60 : zLv RX1 60 0 yX0_told cX0_told 3 (some .int) 0 := zLv.of (T := TX0) (N := 6) rfl q314 q315 q316 q55 q317 (by decide +kernel)
theorem lk_X0_37 : zLv RX0 37 0 yX0_open cX0_open 2 (some .int) 1 := zLv.of (T := TX0) (N := 6) rfl q318 q319 q320 q55 q321 (by decide +kernel)
theorem lk_X4_130 : zLv RX4 130 1 yX1_ties cX1_ties 1 (some .int) 0 := zLv.of (T := TX1) (N := 7) rfl q322 q323 q324 q54 q325 (by decide +kernel)
theorem lk_X1_94 : zLv RX1 94 1 yX1_knots cX1_knots 6 (some .int) 0 := zLv.of (T := TX1) (N := 7) rfl q326 q292 q293 q54 q294 (by decide +kernel)
theorem lk_X1_96 : zLv RX1 96 1 yX1_loops cX1_loops 6 (some .int) 0 := zLv.of (T := TX1) (N := 7) rfl q327 q297 q298 q54 q299 (by decide +kernel)
theorem lk_X4_203 : zLv RX4 203 1 yX1_lacking cX1_lacking 6 (some .int) 0 := zLv.of (T := TX1) (N := 7) rfl q328 q329 q330 q54 q331 (by decide +kernel)
theorem lk_X1_67 : zLv RX1 67 0 yX0_lack cX0_lack 1 (some .int) 0 := zLv.of (T := TX0) (N := 6) rfl q332 q333 q334 q55 q335 (by decide +kernel)
theorem lk_X0_45 : zLv RX0 45 0 yX0_partsTogether cX0_partsTogether 1 (some .int) 0 := zLv.of (T := TX0) (N := 6) rfl q336 q337 q338 q55 q339 (by decide +kernel)
theorem lk_X0_49 : zLv RX0 49 0 yX0_told cX0_told 3 (some .int) 0 := zLv.of (T := TX0) (N := 6) rfl q340 q315 q316 q55 q317 (by decide +kernel)
theorem lk_X4_249 : zLs RX4 249 yX4_mix cX4_mix 4 (some .long) 2 := zLs.of q409 q410 q53 q411 (by decide +kernel)
theorem lk_X4_253 : zLv RX4 253 4 yX4_mixCord cX4_mixCord 8 (some .long) 2 := zLv.of (T := TX4) (N := 8) rfl q413 q415 q8 q53 q416 (by decide +kernel)
theorem lk_X4_326 : zLv RX4 326 4 yX4_cordOf cX4_cordOf 4 (some .int) 2 := zLv.of (T := TX4) (N := 8) rfl q417 q418 q419 q53 q420 (by decide +kernel)
theorem lk_X4_53 : zLv RX4 53 4 yX4_cordAt cX4_cordAt 2 (some (.object "HerdCords$Cord")) 1 := zLv.of (T := TX4) (N := 8) rfl q421 q423 q9 q53 q424 (by decide +kernel)
theorem lk_X4_143 : zLv RX4 143 0 yX0_told cX0_told 3 (some .int) 0 := zLv.of (T := TX0) (N := 6) rfl q441 q315 q316 q55 q317 (by decide +kernel)
theorem lk_X4_145 : zLv RX4 145 0 yX0_partsTogether cX0_partsTogether 1 (some .int) 0 := zLv.of (T := TX0) (N := 6) rfl q442 q337 q338 q55 q339 (by decide +kernel)
theorem lk_X4_151 : zLv RX4 151 0 yX0_lack cX0_lack 1 (some .int) 0 := zLv.of (T := TX0) (N := 6) rfl q443 q333 q334 q55 q335 (by decide +kernel)
theorem lk_X4_154 : zLv RX4 154 0 yX0_ties cX0_ties 1 (some .int) 0 := zLv.of (T := TX0) (N := 6) rfl q444 q273 q274 q55 q275 (by decide +kernel)
theorem lk_X4_155 : zLv RX4 155 0 yX0_allLoops cX0_allLoops 1 (some .int) 0 := zLv.of (T := TX0) (N := 6) rfl q445 q284 q285 q55 q286 (by decide +kernel)
theorem lk_X4_329 : zLv RX4 329 4 yX4_placeOf cX4_placeOf 5 (some .int) 3 := zLv.of (T := TX4) (N := 8) rfl q447 q448 q449 q53 q450 (by decide +kernel)
theorem lk_X4_80 : zLs RX4 80 yX4_checkPlace cX4_checkPlace 1 none 1 := zLs.of q451 q452 q53 q453 (by decide +kernel)
theorem lk_X4_169 : zLv RX4 169 0 yX0_open cX0_open 2 (some .int) 1 := zLv.of (T := TX0) (N := 6) rfl q455 q319 q320 q55 q321 (by decide +kernel)
theorem lk_X4_173 : zLv RX4 173 0 yX0_tiesAt cX0_tiesAt 2 (some .int) 1 := zLv.of (T := TX0) (N := 6) rfl q456 q457 q458 q55 q459 (by decide +kernel)
theorem lk_X4_176 : zLs RX4 176 yJ9_max_7cf53 cJ9_max_7cf53 2 (some .int) 2 := zLs.of q460 q461 q65 q462 (by decide +kernel)
theorem lk_X4_333 : zLv RX4 333 4 yX4_part cX4_part 4 (some .int) 2 := zLv.of (T := TX4) (N := 8) rfl q464 q465 q466 q53 q467 (by decide +kernel)
theorem lk_X4_336 : zLv RX4 336 4 yX4_whyNot cX4_whyNot 4 (some .int) 2 := zLv.of (T := TX4) (N := 8) rfl q469 q470 q471 q53 q472 (by decide +kernel)
theorem lk_X4_57 : zLs RX4 57 yX4_checkNumber cX4_checkNumber 1 none 1 := zLs.of q473 q474 q53 q475 (by decide +kernel)
theorem lk_X4_211 : zLv RX4 211 0 yX0_refusalOfPart cX0_refusalOfPart 3 (some .int) 2 := zLv.of (T := TX0) (N := 6) rfl q478 q479 q480 q55 q481 (by decide +kernel)
theorem lk_X0_66 : zLv RX0 66 0 yX0_refusal cX0_refusal 9 (some .int) 2 := zLv.of (T := TX0) (N := 6) rfl q482 q483 q484 q55 q485 (by decide +kernel)
theorem lk_X0_59 : zLv RX0 59 0 yX0_loopsFor cX0_loopsFor 3 (some .int) 2 := zLv.of (T := TX0) (N := 6) rfl q487 q489 q10 q55 q490 (by decide +kernel)
theorem lk_X0_63 : zLv RX0 63 0 yX0_tiesAt cX0_tiesAt 2 (some .int) 1 := zLv.of (T := TX0) (N := 6) rfl q491 q457 q458 q55 q459 (by decide +kernel)
theorem lk_X4_339 : zLv RX4 339 4 yX4_howOften cX4_howOften 5 (some .int) 2 := zLv.of (T := TX4) (N := 8) rfl q492 q493 q494 q53 q495 (by decide +kernel)
theorem lk_X4_214 : zLv RX4 214 0 yX0_copyFrom cX0_copyFrom 2 none 1 := zLv.of (T := TX0) (N := 6) rfl q496 q497 q498 q55 q499 (by decide +kernel)
theorem lk_X4_217 : zLv RX4 217 0 yX0_tieAsPart cX0_tieAsPart 2 none 1 := zLv.of (T := TX0) (N := 6) rfl q503 q504 q505 q55 q506 (by decide +kernel)
theorem lk_X0_69 : zLv RX0 69 0 yX0_tieKnots cX0_tieKnots 7 none 1 := zLv.of (T := TX0) (N := 6) rfl q507 q508 q509 q55 q510 (by decide +kernel)
theorem lk_X4_257 : zLv RX4 257 4 yX4_byHue cX4_byHue 2 (some .int) 1 := zLv.of (T := TX4) (N := 8) rfl q511 q512 q513 q53 q514 (by decide +kernel)
theorem lk_X4_93 : zLs RX4 93 yX4_checkHue cX4_checkHue 1 none 1 := zLs.of q515 q516 q53 q517 (by decide +kernel)
theorem lk_X4_208 : zLv RX4 208 1 yX1_toldInHue cX1_toldInHue 7 (some .int) 1 := zLv.of (T := TX1) (N := 7) rfl q519 q520 q521 q54 q522 (by decide +kernel)
theorem lk_X4_260 : zLv RX4 260 4 yX4_cordsFor cX4_cordsFor 3 (some .int) 2 := zLv.of (T := TX4) (N := 8) rfl q523 q524 q525 q53 q526 (by decide +kernel)
theorem lk_X4_225 : zLv RX4 225 1 yX1_tellEach cX1_tellEach 3 none 1 := zLv.of (T := TX1) (N := 7) rfl q530 q531 q532 q54 q533 (by decide +kernel)
theorem lk_X4_229 : zLs RX4 229 yX4_bestOfAllSets cX4_bestOfAllSets 4 (some .int) 2 := zLs.of q534 q535 q53 q536 (by decide +kernel)
theorem lk_X4_312 : zLs RX4 312 yX4_toldBySet cX4_toldBySet 4 (some .int) 2 := zLs.of q537 q538 q53 q539 (by decide +kernel)
theorem lk_X4_315 : zLs RX4 315 yX4_better cX4_better 3 (some .int) 2 := zLs.of q540 q541 q53 q542 (by decide +kernel)
theorem lk_X4_318 : zLs RX4 318 yJ6_bitCount_0f7a4 cJ6_bitCount_0f7a4 1 (some .int) 1 := zLs.of q543 q544 q67 q545 (by decide +kernel)
theorem lk_X4_323 : zLs RX4 323 yJ6_compare_7cf53 cJ6_compare_7cf53 2 (some .int) 2 := zLs.of q549 q550 q67 q551 (by decide +kernel)
theorem lk_X4_233 : zLs RX4 233 yX4_bestByTrying cX4_bestByTrying 6 (some .int) 5 := zLs.of q552 q553 q53 q554 (by decide +kernel)
theorem lk_X4_263 : zLv RX4 263 4 yX4_fullest cX4_fullest 1 (some .int) 0 := zLv.of (T := TX4) (N := 8) rfl q555 q265 q266 q53 q267 (by decide +kernel)
theorem lk_X4_266 : zLv RX4 266 4 yX4_closedShare cX4_closedShare 2 (some .double) 0 := zLv.of (T := TX4) (N := 8) rfl q556 q288 q289 q53 q290 (by decide +kernel)
theorem lk_X4_270 : zLs RX4 270 yX4_bitsOfShare cX4_bitsOfShare 8 (some .long) 1 := zLs.of q557 q558 q53 q559 (by decide +kernel)
theorem lk_L_7 : zLv RL 7 4 yX4_tie cX4_tie 4 (some .int) 2 := zLv.of (T := TX4) (N := 8) rfl q568 q569 q570 q53 q571 (by decide +kernel)
theorem lk_X4_61 : zLv RX4 61 2 yX2_save cX2_save 2 none 1 := zLv.of (T := TX2) (N := 3) rfl q572 q573 q574 q56 q575 (by decide +kernel)
theorem lk_X2_25 : zLv RX2 25 1 yX1_copyFrom cX1_copyFrom 3 none 1 := zLv.of (T := TX1) (N := 7) rfl q576 q577 q578 q54 q579 (by decide +kernel)
theorem lk_X1_37 : zLv RX1 37 0 yX0_copyFrom cX0_copyFrom 2 none 1 := zLv.of (T := TX0) (N := 6) rfl q580 q497 q498 q55 q499 (by decide +kernel)
theorem lk_X2_29 : zLs RX2 29 yJ9_min_7cf53 cJ9_min_7cf53 2 (some .int) 2 := zLs.of q581 q582 q65 q583 (by decide +kernel)
theorem lk_X4_65 : zLv RX4 65 1 yX1_tiePart cX1_tiePart 6 (some .int) 2 := zLv.of (T := TX1) (N := 7) rfl q584 q585 q586 q54 q587 (by decide +kernel)
theorem lk_X1_41 : zLv RX1 41 0 yX0_refusalOfPart cX0_refusalOfPart 3 (some .int) 2 := zLv.of (T := TX0) (N := 6) rfl q588 q479 q480 q55 q481 (by decide +kernel)
theorem lk_X1_52 : zLv RX1 52 0 yX0_tieAsPart cX0_tieAsPart 2 none 1 := zLv.of (T := TX0) (N := 6) rfl q589 q504 q505 q55 q506 (by decide +kernel)
theorem lk_X1_56 : zLv RX1 56 1 yX1_countTied cX1_countTied 5 (some .int) 3 := zLv.of (T := TX1) (N := 7) rfl q590 q592 q11 q54 q593 (by decide +kernel)
theorem lk_L_17 : zLv RL 17 4 yX4_add cX4_add 5 (some .int) 2 := zLv.of (T := TX4) (N := 8) rfl q597 q598 q599 q53 q600 (by decide +kernel)
theorem lk_X4_76 : zLv RX4 76 1 yX1_tieCord cX1_tieCord 4 (some .int) 2 := zLv.of (T := TX1) (N := 7) rfl q602 q603 q604 q54 q605 (by decide +kernel)
theorem lk_X1_63 : zLv RX1 63 1 yX1_tiePart cX1_tiePart 6 (some .int) 2 := zLv.of (T := TX1) (N := 7) rfl q606 q585 q586 q54 q587 (by decide +kernel)
theorem lk_L_20 : zLv RL 20 4 yX4_slip cX4_slip 4 (some .int) 2 := zLv.of (T := TX4) (N := 8) rfl q610 q611 q612 q53 q613 (by decide +kernel)
theorem lk_X4_83 : zLv RX4 83 1 yX1_loosen cX1_loosen 3 (some .int) 2 := zLv.of (T := TX1) (N := 7) rfl q614 q615 q616 q54 q617 (by decide +kernel)
theorem lk_X1_76 : zLv RX1 76 0 yX0_open cX0_open 2 (some .int) 1 := zLv.of (T := TX0) (N := 6) rfl q618 q319 q320 q55 q321 (by decide +kernel)
theorem lk_L_23 : zLv RL 23 4 yX4_mend cX4_mend 3 (some .int) 1 := zLv.of (T := TX4) (N := 8) rfl q622 q623 q624 q53 q625 (by decide +kernel)
theorem lk_X4_86 : zLv RX4 86 1 yX1_tieLack cX1_tieLack 6 (some .int) 1 := zLv.of (T := TX1) (N := 7) rfl q626 q627 q628 q54 q629 (by decide +kernel)
theorem lk_X1_70 : zLv RX1 70 0 yX0_refusal cX0_refusal 9 (some .int) 2 := zLv.of (T := TX0) (N := 6) rfl q630 q483 q484 q55 q485 (by decide +kernel)
theorem lk_X1_73 : zLv RX1 73 0 yX0_tieKnots cX0_tieKnots 7 none 1 := zLv.of (T := TX0) (N := 6) rfl q631 q508 q509 q55 q510 (by decide +kernel)
theorem lk_L_27 : zLv RL 27 4 yX4_renew cX4_renew 3 (some .int) 1 := zLv.of (T := TX4) (N := 8) rfl q635 q636 q637 q53 q638 (by decide +kernel)
theorem lk_X4_90 : zLv RX4 90 1 yX1_replace cX1_replace 3 (some .int) 1 := zLv.of (T := TX1) (N := 7) rfl q639 q640 q641 q54 q642 (by decide +kernel)
theorem lk_X1_88 : zLv RX1 88 0 yX0_becomeNew cX0_becomeNew 2 none 0 := zLv.of (T := TX0) (N := 6) rfl q643 q644 q645 q55 q646 (by decide +kernel)
theorem lk_L_30 : zLv RL 30 4 yX4_dye cX4_dye 5 (some .int) 2 := zLv.of (T := TX4) (N := 8) rfl q650 q651 q652 q53 q653 (by decide +kernel)
theorem lk_L_33 : zLv RL 33 4 yX4_set cX4_set 3 (some .int) 1 := zLv.of (T := TX4) (N := 8) rfl q657 q658 q659 q53 q660 (by decide +kernel)
theorem lk_L_36 : zLv RL 36 4 yX4_append cX4_append 2 (some .int) 1 := zLv.of (T := TX4) (N := 8) rfl q666 q667 q668 q53 q669 (by decide +kernel)
theorem lk_L_41 : zLv RL 41 4 yX4_run cX4_run 2 (some .int) 0 := zLv.of (T := TX4) (N := 8) rfl q690 q691 q692 q53 q693 (by decide +kernel)
theorem lk_X4_115 : zLv RX4 115 3 yX3_hasWholeOrder cX3_hasWholeOrder 1 (some .boolean) 0 := zLv.of (T := TX3) (N := 5) rfl q694 q695 q696 q57 q697 (by decide +kernel)
theorem lk_X4_121 : zLv RX4 121 4 yX4_doOrders cX4_doOrders 3 (some .int) 0 := zLv.of (T := TX4) (N := 8) rfl q699 q701 q12 q53 q702 (by decide +kernel)
theorem lk_X4_299 : zLv RX4 299 4 yX4_doOrderRead cX4_doOrderRead 3 (some .boolean) 0 := zLv.of (T := TX4) (N := 8) rfl q703 q705 q13 q53 q706 (by decide +kernel)
theorem lk_L_45 : zLv RL 45 4 yX4_keep cX4_keep 3 (some .int) 1 := zLv.of (T := TX4) (N := 8) rfl q710 q711 q712 q53 q713 (by decide +kernel)
theorem lk_X4_124 : zLs RX4 124 yX4_checkSlot cX4_checkSlot 1 none 1 := zLs.of q714 q715 q53 q716 (by decide +kernel)
theorem lk_X4_127 : zLv RX4 127 1 yX1_copyFrom cX1_copyFrom 3 none 1 := zLv.of (T := TX1) (N := 7) rfl q718 q577 q578 q54 q579 (by decide +kernel)
theorem lk_L_48 : zLv RL 48 4 yX4_goBack cX4_goBack 3 (some .int) 1 := zLv.of (T := TX4) (N := 8) rfl q722 q723 q724 q53 q725 (by decide +kernel)
theorem lk_L_51 : zLv RL 51 4 yX4_undo cX4_undo 1 (some .int) 0 := zLv.of (T := TX4) (N := 8) rfl q730 q731 q732 q53 q733 (by decide +kernel)
theorem lk_X4_140 : zLv RX4 140 2 yX2_restore cX2_restore 2 none 1 := zLv.of (T := TX2) (N := 3) rfl q735 q736 q737 q56 q738 (by decide +kernel)
theorem lk_L_54 : zLv RL 54 4 yX4_cordOf cX4_cordOf 4 (some .int) 2 := zLv.of (T := TX4) (N := 8) rfl q742 q418 q419 q53 q420 (by decide +kernel)
theorem lk_L_57 : zLv RL 57 4 yX4_placeOf cX4_placeOf 5 (some .int) 3 := zLv.of (T := TX4) (N := 8) rfl q746 q448 q449 q53 q450 (by decide +kernel)
theorem lk_L_61 : zLv RL 61 4 yX4_part cX4_part 4 (some .int) 2 := zLv.of (T := TX4) (N := 8) rfl q750 q465 q466 q53 q467 (by decide +kernel)
theorem lk_L_64 : zLv RL 64 4 yX4_count cX4_count 2 (some .int) 1 := zLv.of (T := TX4) (N := 8) rfl q754 q307 q308 q53 q309 (by decide +kernel)
theorem lk_L_67 : zLv RL 67 4 yX4_byHue cX4_byHue 2 (some .int) 1 := zLv.of (T := TX4) (N := 8) rfl q758 q512 q513 q53 q514 (by decide +kernel)
theorem lk_L_70 : zLv RL 70 4 yX4_whyNot cX4_whyNot 4 (some .int) 2 := zLv.of (T := TX4) (N := 8) rfl q762 q470 q471 q53 q472 (by decide +kernel)
theorem lk_L_73 : zLv RL 73 4 yX4_howOften cX4_howOften 5 (some .int) 2 := zLv.of (T := TX4) (N := 8) rfl q766 q493 q494 q53 q495 (by decide +kernel)
theorem lk_L_76 : zLv RL 76 4 yX4_cordsFor cX4_cordsFor 3 (some .int) 2 := zLv.of (T := TX4) (N := 8) rfl q770 q524 q525 q53 q526 (by decide +kernel)
theorem lk_L_89 : zLv RL 89 5 yX5_thrown cX5_thrown 1 (some .int) 0 := zLv.of (T := TX5) (N := 12) rfl q815 q816 q817 q58 q818 (by decide +kernel)
theorem lk_L_88 : zLv RL 88 5 yX5_tie cX5_tie 3 (some .int) 2 := zLv.of (T := TX5) (N := 12) rfl q819 q820 q821 q58 q822 (by decide +kernel)
theorem lk_X5_82 : zLs RX5 82 yX5_isCord cX5_isCord 1 (some .boolean) 1 := zLs.of q823 q824 q58 q825 (by decide +kernel)
theorem lk_X5_39 : zLs RX5 39 yX5_in cX5_in 3 (some .boolean) 3 := zLs.of q826 q827 q58 q828 (by decide +kernel)
theorem lk_X5_86 : zLv RX5 86 5 yX5_holds cX5_holds 2 (some .boolean) 1 := zLv.of (T := TX5) (N := 12) rfl q830 q832 q14 q58 q833 (by decide +kernel)
theorem lk_X5_89 : zLv RX5 89 5 yX5_save cX5_save 2 none 0 := zLv.of (T := TX5) (N := 12) rfl q834 q836 q15 q58 q837 (by decide +kernel)
theorem lk_X5_76 : zLv RX5 76 5 yX5_tiesPart cX5_tiesPart 4 (some .int) 2 := zLv.of (T := TX5) (N := 12) rfl q838 q840 q16 q58 q841 (by decide +kernel)
theorem lk_X5_70 : zLv RX5 70 5 yX5_reasonFor cX5_reasonFor 3 (some .int) 2 := zLv.of (T := TX5) (N := 12) rfl q842 q844 q17 q58 q845 (by decide +kernel)
theorem lk_X5_50 : zLv RX5 50 5 yX5_of cX5_of 3 (some .int) 2 := zLv.of (T := TX5) (N := 12) rfl q846 q848 q18 q58 q849 (by decide +kernel)
theorem lk_X5_43 : zLs RX5 43 yX5_at cX5_at 2 (some .int) 2 := zLs.of q850 q851 q58 q852 (by decide +kernel)
theorem lk_X5_67 : zLv RX5 67 5 yX5_lays cX5_lays 9 (some .int) 2 := zLv.of (T := TX5) (N := 12) rfl q853 q855 q19 q58 q856 (by decide +kernel)
theorem lk_X5_60 : zLv RX5 60 5 yX5_told cX5_told 4 (some .int) 1 := zLv.of (T := TX5) (N := 12) rfl q857 q859 q20 q58 q860 (by decide +kernel)
theorem lk_X5_53 : zLv RX5 53 5 yX5_open cX5_open 3 (some .int) 2 := zLv.of (T := TX5) (N := 12) rfl q861 q863 q21 q58 q864 (by decide +kernel)
theorem lk_X5_73 : zLv RX5 73 5 yX5_knits cX5_knits 4 (some .int) 1 := zLv.of (T := TX5) (N := 12) rfl q865 q867 q22 q58 q868 (by decide +kernel)
theorem lk_L_94 : zLv RL 94 5 yX5_add cX5_add 3 (some .int) 2 := zLv.of (T := TX5) (N := 12) rfl q869 q870 q871 q58 q872 (by decide +kernel)
theorem lk_X5_92 : zLv RX5 92 5 yX5_adds cX5_adds 3 (some .int) 2 := zLv.of (T := TX5) (N := 12) rfl q873 q875 q23 q58 q876 (by decide +kernel)
theorem lk_L_97 : zLv RL 97 5 yX5_slip cX5_slip 3 (some .int) 2 := zLv.of (T := TX5) (N := 12) rfl q877 q878 q879 q58 q880 (by decide +kernel)
theorem lk_X5_95 : zLv RX5 95 5 yX5_slips cX5_slips 3 (some .int) 2 := zLv.of (T := TX5) (N := 12) rfl q881 q883 q24 q58 q884 (by decide +kernel)
theorem lk_L_101 : zLv RL 101 5 yX5_mend cX5_mend 2 (some .int) 1 := zLv.of (T := TX5) (N := 12) rfl q885 q886 q887 q58 q888 (by decide +kernel)
theorem lk_X5_98 : zLv RX5 98 5 yX5_mends cX5_mends 5 (some .int) 1 := zLv.of (T := TX5) (N := 12) rfl q889 q891 q25 q58 q892 (by decide +kernel)
theorem lk_X5_79 : zLv RX5 79 5 yX5_lacks cX5_lacks 2 (some .int) 1 := zLv.of (T := TX5) (N := 12) rfl q893 q895 q26 q58 q896 (by decide +kernel)
theorem lk_X5_56 : zLv RX5 56 5 yX5_partsTold cX5_partsTold 4 (some .int) 1 := zLv.of (T := TX5) (N := 12) rfl q897 q899 q27 q58 q900 (by decide +kernel)
theorem lk_L_104 : zLv RL 104 5 yX5_renew cX5_renew 4 (some .int) 1 := zLv.of (T := TX5) (N := 12) rfl q901 q902 q903 q58 q904 (by decide +kernel)
theorem lk_X5_63 : zLv RX5 63 5 yX5_ties cX5_ties 4 (some .int) 1 := zLv.of (T := TX5) (N := 12) rfl q905 q907 q28 q58 q908 (by decide +kernel)
theorem lk_L_107 : zLv RL 107 5 yX5_dye cX5_dye 3 (some .int) 2 := zLv.of (T := TX5) (N := 12) rfl q909 q910 q911 q58 q912 (by decide +kernel)
theorem lk_X5_101 : zLv RX5 101 5 yX5_puts cX5_puts 4 (some .int) 2 := zLv.of (T := TX5) (N := 12) rfl q913 q915 q29 q58 q916 (by decide +kernel)
theorem lk_L_110 : zLv RL 110 5 yX5_set cX5_set 2 (some .int) 1 := zLv.of (T := TX5) (N := 12) rfl q917 q918 q919 q58 q920 (by decide +kernel)
theorem lk_L_113 : zLv RL 113 5 yX5_append cX5_append 2 (some .int) 1 := zLv.of (T := TX5) (N := 12) rfl q921 q922 q923 q58 q924 (by decide +kernel)
theorem lk_L_117 : zLv RL 117 5 yX5_clearBuffer cX5_clearBuffer 2 (some .int) 0 := zLv.of (T := TX5) (N := 12) rfl q925 q926 q927 q58 q928 (by decide +kernel)
theorem lk_L_121 : zLv RL 121 5 yX5_firstError cX5_firstError 1 (some .int) 0 := zLv.of (T := TX5) (N := 12) rfl q929 q930 q931 q58 q932 (by decide +kernel)
theorem lk_X5_119 : zLv RX5 119 5 yX5_wrong cX5_wrong 3 (some .int) 0 := zLv.of (T := TX5) (N := 12) rfl q933 q935 q30 q58 q936 (by decide +kernel)
theorem lk_X5_116 : zLv RX5 116 5 yX5_behindOrder cX5_behindOrder 4 (some .int) 1 := zLv.of (T := TX5) (N := 12) rfl q937 q939 q31 q58 q940 (by decide +kernel)
theorem lk_X5_110 : zLv RX5 110 5 yX5_digitAt cX5_digitAt 2 (some .int) 1 := zLv.of (T := TX5) (N := 12) rfl q941 q943 q32 q58 q944 (by decide +kernel)
theorem lk_X5_107 : zLv RX5 107 5 yX5_charAt cX5_charAt 2 (some .int) 1 := zLv.of (T := TX5) (N := 12) rfl q945 q947 q33 q58 q948 (by decide +kernel)
theorem lk_X5_113 : zLv RX5 113 5 yX5_behindNumber cX5_behindNumber 3 (some .int) 1 := zLv.of (T := TX5) (N := 12) rfl q949 q951 q34 q58 q952 (by decide +kernel)
theorem lk_L_125 : zLv RL 125 5 yX5_run cX5_run 5 (some .int) 0 := zLv.of (T := TX5) (N := 12) rfl q953 q954 q955 q58 q956 (by decide +kernel)
theorem lk_X5_123 : zLv RX5 123 5 yX5_does cX5_does 6 (some .boolean) 2 := zLv.of (T := TX5) (N := 12) rfl q957 q959 q35 q58 q960 (by decide +kernel)
theorem lk_L_128 : zLv RL 128 5 yX5_keep cX5_keep 3 (some .int) 1 := zLv.of (T := TX5) (N := 12) rfl q961 q962 q963 q58 q964 (by decide +kernel)
theorem lk_X5_127 : zLv RX5 127 5 yX5_allTies cX5_allTies 3 (some .int) 0 := zLv.of (T := TX5) (N := 12) rfl q965 q967 q36 q58 q968 (by decide +kernel)
theorem lk_L_131 : zLv RL 131 5 yX5_goBack cX5_goBack 4 (some .int) 1 := zLv.of (T := TX5) (N := 12) rfl q969 q970 q971 q58 q972 (by decide +kernel)
theorem lk_L_134 : zLv RL 134 5 yX5_undo cX5_undo 2 (some .int) 0 := zLv.of (T := TX5) (N := 12) rfl q973 q974 q975 q58 q976 (by decide +kernel)
theorem lk_L_137 : zLv RL 137 5 yX5_cordOf cX5_cordOf 3 (some .int) 2 := zLv.of (T := TX5) (N := 12) rfl q977 q978 q979 q58 q980 (by decide +kernel)
theorem lk_X5_133 : zLv RX5 133 5 yX5_number cX5_number 3 (some .int) 2 := zLv.of (T := TX5) (N := 12) rfl q981 q983 q37 q58 q984 (by decide +kernel)
theorem lk_X5_130 : zLv RX5 130 5 yX5_loopsOf cX5_loopsOf 4 (some .int) 1 := zLv.of (T := TX5) (N := 12) rfl q985 q987 q38 q58 q988 (by decide +kernel)
theorem lk_L_141 : zLv RL 141 5 yX5_placeOf cX5_placeOf 4 (some .int) 3 := zLv.of (T := TX5) (N := 12) rfl q989 q990 q991 q58 q992 (by decide +kernel)
theorem lk_X5_136 : zLv RX5 136 5 yX5_atPlace cX5_atPlace 5 (some .int) 3 := zLv.of (T := TX5) (N := 12) rfl q993 q995 q39 q58 q996 (by decide +kernel)
theorem lk_L_144 : zLv RL 144 5 yX5_part cX5_part 3 (some .int) 2 := zLv.of (T := TX5) (N := 12) rfl q997 q998 q999 q58 q1000 (by decide +kernel)
theorem lk_L_147 : zLv RL 147 5 yX5_count cX5_count 2 (some .int) 1 := zLv.of (T := TX5) (N := 12) rfl q1001 q1002 q1003 q58 q1004 (by decide +kernel)
theorem lk_X5_143 : zLv RX5 143 5 yX5_counted cX5_counted 2 (some .int) 1 := zLv.of (T := TX5) (N := 12) rfl q1005 q1007 q40 q58 q1008 (by decide +kernel)
theorem lk_X5_140 : zLv RX5 140 5 yX5_sumOf cX5_sumOf 4 (some .int) 1 := zLv.of (T := TX5) (N := 12) rfl q1009 q1011 q41 q58 q1012 (by decide +kernel)
theorem lk_L_150 : zLv RL 150 5 yX5_byHue cX5_byHue 2 (some .int) 1 := zLv.of (T := TX5) (N := 12) rfl q1013 q1014 q1015 q58 q1016 (by decide +kernel)
theorem lk_X5_146 : zLv RX5 146 5 yX5_ofHue cX5_ofHue 4 (some .int) 1 := zLv.of (T := TX5) (N := 12) rfl q1017 q1019 q42 q58 q1020 (by decide +kernel)
theorem lk_L_153 : zLv RL 153 5 yX5_whyNot cX5_whyNot 3 (some .int) 2 := zLv.of (T := TX5) (N := 12) rfl q1021 q1022 q1023 q58 q1024 (by decide +kernel)
theorem lk_L_156 : zLv RL 156 5 yX5_howOften cX5_howOften 3 (some .int) 2 := zLv.of (T := TX5) (N := 12) rfl q1025 q1026 q1027 q58 q1028 (by decide +kernel)
theorem lk_X5_155 : zLv RX5 155 5 yX5_times cX5_times 4 (some .int) 2 := zLv.of (T := TX5) (N := 12) rfl q1029 q1031 q43 q58 q1032 (by decide +kernel)
theorem lk_X5_149 : zLv RX5 149 5 yX5_putAside cX5_putAside 2 none 0 := zLv.of (T := TX5) (N := 12) rfl q1033 q1035 q44 q58 q1036 (by decide +kernel)
theorem lk_X5_152 : zLv RX5 152 5 yX5_putBack cX5_putBack 2 none 0 := zLv.of (T := TX5) (N := 12) rfl q1037 q1039 q45 q58 q1040 (by decide +kernel)
theorem lk_L_159 : zLv RL 159 5 yX5_cordsFor cX5_cordsFor 3 (some .int) 2 := zLv.of (T := TX5) (N := 12) rfl q1041 q1042 q1043 q58 q1044 (by decide +kernel)
theorem lk_X5_165 : zLv RX5 165 5 yX5_setFor cX5_setFor 4 (some .int) 1 := zLv.of (T := TX5) (N := 12) rfl q1046 q1048 q46 q58 q1049 (by decide +kernel)
theorem lk_X5_158 : zLv RX5 158 5 yX5_toldBy cX5_toldBy 4 (some .int) 1 := zLv.of (T := TX5) (N := 12) rfl q1050 q1052 q47 q58 q1053 (by decide +kernel)
theorem lk_X5_161 : zLs RX5 161 yX5_many cX5_many 3 (some .int) 1 := zLs.of q1054 q1055 q58 q1056 (by decide +kernel)
theorem lk_L_163 : zLv RL 163 5 yX5_fullest cX5_fullest 1 (some .int) 0 := zLv.of (T := TX5) (N := 12) rfl q1057 q1058 q1059 q58 q1060 (by decide +kernel)
theorem lk_X5_168 : zLv RX5 168 5 yX5_fullestOne cX5_fullestOne 3 (some .int) 0 := zLv.of (T := TX5) (N := 12) rfl q1061 q1063 q48 q58 q1064 (by decide +kernel)
theorem lk_L_168 : zLv RL 168 5 yX5_closedShare cX5_closedShare 1 (some .double) 0 := zLv.of (T := TX5) (N := 12) rfl q1065 q1066 q1067 q58 q1068 (by decide +kernel)
theorem lk_X5_171 : zLv RX5 171 5 yX5_share cX5_share 4 (some .double) 0 := zLv.of (T := TX5) (N := 12) rfl q1069 q1071 q49 q58 q1072 (by decide +kernel)
theorem lk_L_173 : zLv RL 173 5 yX5_digest cX5_digest 2 (some .long) 0 := zLv.of (T := TX5) (N := 12) rfl q1073 q1074 q1075 q58 q1076 (by decide +kernel)
theorem lk_X5_189 : zLv RX5 189 5 yX5_digestOne cX5_digestOne 3 none 1 := zLv.of (T := TX5) (N := 12) rfl q1078 q1080 q50 q58 q1081 (by decide +kernel)
theorem lk_X5_195 : zLv RX5 195 5 yX5_digestCord cX5_digestCord 3 none 1 := zLv.of (T := TX5) (N := 12) rfl q1083 q1085 q51 q58 q1086 (by decide +kernel)
theorem lk_X5_199 : zLs RX5 199 yX5_bitsOf cX5_bitsOf 6 (some .long) 1 := zLs.of q1087 q1088 q58 q1089 (by decide +kernel)
