theorem fd_X0_9 : zFd RX0 9 0 0 := ⟨RX0, TX0, 6, rfl, ziX0, by decide, q88⟩
theorem fp_X0_9 : zFp RX0 9 0 0 (.array .int) true := ⟨RX0, TX0, 6, tyX0, rfl, ziX0, tyX0_ok, nmX0, by decide, q88, rfl, by decide +kernel, rfl⟩
theorem fd_X1_80 : zFd RX1 80 0 0 := ⟨RX0, TX0, 6, rfl, ziX0, by decide, q89⟩
theorem fp_X1_80 : zFp RX1 80 0 0 (.array .int) true := ⟨RX0, TX0, 6, tyX0, rfl, ziX0, tyX0_ok, nmX0, by decide, q89, rfl, by decide +kernel, rfl⟩
theorem fd_X4_170 : zFd RX4 170 0 0 := ⟨RX0, TX0, 6, rfl, ziX0, by decide, q90⟩
theorem fp_X4_170 : zFp RX4 170 0 0 (.array .int) true := ⟨RX0, TX0, 6, tyX0, rfl, ziX0, tyX0_ok, nmX0, by decide, q90, rfl, by decide +kernel, rfl⟩
theorem fd_X0_15 : zFd RX0 15 0 1 := ⟨RX0, TX0, 6, rfl, ziX0, by decide, q91⟩
theorem fp_X0_15 : zFp RX0 15 0 1 (.array .int) true := ⟨RX0, TX0, 6, tyX0, rfl, ziX0, tyX0_ok, nmX0, by decide, q91, rfl, by decide +kernel, rfl⟩
theorem fd_X4_173 : zFd RX4 173 0 1 := ⟨RX0, TX0, 6, rfl, ziX0, by decide, q92⟩
theorem fp_X4_173 : zFp RX4 173 0 1 (.array .int) true := ⟨RX0, TX0, 6, tyX0, rfl, ziX0, tyX0_ok, nmX0, by decide, q92, rfl, by decide +kernel, rfl⟩
theorem fd_X0_18 : zFd RX0 18 0 2 := ⟨RX0, TX0, 6, rfl, ziX0, by decide, q93⟩
theorem fp_X0_18 : zFp RX0 18 0 2 (.array .int) true := ⟨RX0, TX0, 6, tyX0, rfl, ziX0, tyX0_ok, nmX0, by decide, q93, rfl, by decide +kernel, rfl⟩
theorem fd_X4_193 : zFd RX4 193 0 2 := ⟨RX0, TX0, 6, rfl, ziX0, by decide, q94⟩
theorem fp_X4_193 : zFp RX4 193 0 2 (.array .int) true := ⟨RX0, TX0, 6, tyX0, rfl, ziX0, tyX0_ok, nmX0, by decide, q94, rfl, by decide +kernel, rfl⟩
theorem fd_X0_21 : zFd RX0 21 0 3 := ⟨RX0, TX0, 6, rfl, ziX0, by decide, q95⟩
theorem fp_X0_21 : zFp RX0 21 0 3 .int false := ⟨RX0, TX0, 6, tyX0, rfl, ziX0, tyX0_ok, nmX0, by decide, q95, rfl, by decide +kernel, rfl⟩
theorem fd_X4_155 : zFd RX4 155 0 3 := ⟨RX0, TX0, 6, rfl, ziX0, by decide, q96⟩
theorem fp_X4_155 : zFp RX4 155 0 3 .int false := ⟨RX0, TX0, 6, tyX0, rfl, ziX0, tyX0_ok, nmX0, by decide, q96, rfl, by decide +kernel, rfl⟩
theorem fd_X0_25 : zFd RX0 25 0 4 := ⟨RX0, TX0, 6, rfl, ziX0, by decide, q97⟩
theorem fp_X0_25 : zFp RX0 25 0 4 .int false := ⟨RX0, TX0, 6, tyX0, rfl, ziX0, tyX0_ok, nmX0, by decide, q97, rfl, by decide +kernel, rfl⟩
theorem fd_X4_96 : zFd RX4 96 0 4 := ⟨RX0, TX0, 6, rfl, ziX0, by decide, q98⟩
theorem fp_X4_96 : zFp RX4 96 0 4 .int false := ⟨RX0, TX0, 6, tyX0, rfl, ziX0, tyX0_ok, nmX0, by decide, q98, rfl, by decide +kernel, rfl⟩
theorem fd_X1_91 : zFd RX1 91 0 4 := ⟨RX0, TX0, 6, rfl, ziX0, by decide, q99⟩
theorem fp_X1_91 : zFp RX1 91 0 4 .int false := ⟨RX0, TX0, 6, tyX0, rfl, ziX0, tyX0_ok, nmX0, by decide, q99, rfl, by decide +kernel, rfl⟩
theorem fd_X0_28 : zFd RX0 28 0 5 := ⟨RX0, TX0, 6, rfl, ziX0, by decide, q100⟩
theorem fp_X0_28 : zFp RX0 28 0 5 .int false := ⟨RX0, TX0, 6, tyX0, rfl, ziX0, tyX0_ok, nmX0, by decide, q100, rfl, by decide +kernel, rfl⟩
theorem fd_X1_84 : zFd RX1 84 0 5 := ⟨RX0, TX0, 6, rfl, ziX0, by decide, q101⟩
theorem fp_X1_84 : zFp RX1 84 0 5 .int false := ⟨RX0, TX0, 6, tyX0, rfl, ziX0, tyX0_ok, nmX0, by decide, q101, rfl, by decide +kernel, rfl⟩
theorem fd_X4_165 : zFd RX4 165 0 5 := ⟨RX0, TX0, 6, rfl, ziX0, by decide, q102⟩
theorem fp_X4_165 : zFp RX4 165 0 5 .int false := ⟨RX0, TX0, 6, tyX0, rfl, ziX0, tyX0_ok, nmX0, by decide, q102, rfl, by decide +kernel, rfl⟩
theorem fd_X1_11 : zFd RX1 11 1 0 := ⟨RX1, TX1, 7, rfl, ziX1, by decide, q117⟩
theorem fp_X1_11 : zFp RX1 11 1 0 (.array (.object "HerdCords$Cord")) true := ⟨RX1, TX1, 7, tyX1, rfl, ziX1, tyX1_ok, nmX1, by decide, q117, rfl, by decide +kernel, rfl⟩
theorem fd_X4_286 : zFd RX4 286 1 0 := ⟨RX1, TX1, 7, rfl, ziX1, by decide, q118⟩
theorem fp_X4_286 : zFp RX4 286 1 0 (.array (.object "HerdCords$Cord")) true := ⟨RX1, TX1, 7, tyX1, rfl, ziX1, tyX1_ok, nmX1, by decide, q118, rfl, by decide +kernel, rfl⟩
theorem fd_X1_17 : zFd RX1 17 1 1 := ⟨RX1, TX1, 7, rfl, ziX1, by decide, q119⟩
theorem fp_X1_17 : zFp RX1 17 1 1 .int false := ⟨RX1, TX1, 7, tyX1, rfl, ziX1, tyX1_ok, nmX1, by decide, q119, rfl, by decide +kernel, rfl⟩
theorem fd_X4_101 : zFd RX4 101 1 1 := ⟨RX1, TX1, 7, rfl, ziX1, by decide, q120⟩
theorem fp_X4_101 : zFp RX4 101 1 1 .int false := ⟨RX1, TX1, 7, tyX1, rfl, ziX1, tyX1_ok, nmX1, by decide, q120, rfl, by decide +kernel, rfl⟩
theorem fd_X1_21 : zFd RX1 21 1 2 := ⟨RX1, TX1, 7, rfl, ziX1, by decide, q121⟩
theorem fp_X1_21 : zFp RX1 21 1 2 .int false := ⟨RX1, TX1, 7, tyX1, rfl, ziX1, tyX1_ok, nmX1, by decide, q121, rfl, by decide +kernel, rfl⟩
theorem fd_X4_197 : zFd RX4 197 1 2 := ⟨RX1, TX1, 7, rfl, ziX1, by decide, q122⟩
theorem fp_X4_197 : zFp RX4 197 1 2 .int false := ⟨RX1, TX1, 7, tyX1, rfl, ziX1, tyX1_ok, nmX1, by decide, q122, rfl, by decide +kernel, rfl⟩
theorem fd_X1_24 : zFd RX1 24 1 3 := ⟨RX1, TX1, 7, rfl, ziX1, by decide, q123⟩
theorem fp_X1_24 : zFp RX1 24 1 3 .int false := ⟨RX1, TX1, 7, tyX1, rfl, ziX1, tyX1_ok, nmX1, by decide, q123, rfl, by decide +kernel, rfl⟩
theorem fd_X4_200 : zFd RX4 200 1 3 := ⟨RX1, TX1, 7, rfl, ziX1, by decide, q124⟩
theorem fp_X4_200 : zFp RX4 200 1 3 .int false := ⟨RX1, TX1, 7, tyX1, rfl, ziX1, tyX1_ok, nmX1, by decide, q124, rfl, by decide +kernel, rfl⟩
theorem fd_X1_27 : zFd RX1 27 1 4 := ⟨RX1, TX1, 7, rfl, ziX1, by decide, q125⟩
theorem fp_X1_27 : zFp RX1 27 1 4 .int false := ⟨RX1, TX1, 7, tyX1, rfl, ziX1, tyX1_ok, nmX1, by decide, q125, rfl, by decide +kernel, rfl⟩
theorem fd_X4_203 : zFd RX4 203 1 4 := ⟨RX1, TX1, 7, rfl, ziX1, by decide, q126⟩
theorem fp_X4_203 : zFp RX4 203 1 4 .int false := ⟨RX1, TX1, 7, tyX1, rfl, ziX1, tyX1_ok, nmX1, by decide, q126, rfl, by decide +kernel, rfl⟩
theorem fd_X1_30 : zFd RX1 30 1 5 := ⟨RX1, TX1, 7, rfl, ziX1, by decide, q127⟩
theorem fp_X1_30 : zFp RX1 30 1 5 .int false := ⟨RX1, TX1, 7, tyX1, rfl, ziX1, tyX1_ok, nmX1, by decide, q127, rfl, by decide +kernel, rfl⟩
theorem fd_X4_204 : zFd RX4 204 1 5 := ⟨RX1, TX1, 7, rfl, ziX1, by decide, q128⟩
theorem fp_X4_204 : zFp RX4 204 1 5 .int false := ⟨RX1, TX1, 7, tyX1, rfl, ziX1, tyX1_ok, nmX1, by decide, q128, rfl, by decide +kernel, rfl⟩
theorem fd_X1_33 : zFd RX1 33 1 6 := ⟨RX1, TX1, 7, rfl, ziX1, by decide, q129⟩
theorem fp_X1_33 : zFp RX1 33 1 6 .int false := ⟨RX1, TX1, 7, tyX1, rfl, ziX1, tyX1_ok, nmX1, by decide, q129, rfl, by decide +kernel, rfl⟩
theorem fd_X4_207 : zFd RX4 207 1 6 := ⟨RX1, TX1, 7, rfl, ziX1, by decide, q130⟩
theorem fp_X4_207 : zFp RX4 207 1 6 .int false := ⟨RX1, TX1, 7, tyX1, rfl, ziX1, tyX1_ok, nmX1, by decide, q130, rfl, by decide +kernel, rfl⟩
theorem fd_X2_11 : zFd RX2 11 2 0 := ⟨RX2, TX2, 3, rfl, ziX2, by decide, q155⟩
theorem fp_X2_11 : zFp RX2 11 2 0 (.array (.object "HerdCords$Herd")) true := ⟨RX2, TX2, 3, tyX2, rfl, ziX2, tyX2_ok, nmX2, by decide, q155, rfl, by decide +kernel, rfl⟩
theorem fd_X2_17 : zFd RX2 17 2 1 := ⟨RX2, TX2, 3, rfl, ziX2, by decide, q156⟩
theorem fp_X2_17 : zFp RX2 17 2 1 .int false := ⟨RX2, TX2, 3, tyX2, rfl, ziX2, tyX2_ok, nmX2, by decide, q156, rfl, by decide +kernel, rfl⟩
theorem fd_X2_21 : zFd RX2 21 2 2 := ⟨RX2, TX2, 3, rfl, ziX2, by decide, q157⟩
theorem fp_X2_21 : zFp RX2 21 2 2 .int false := ⟨RX2, TX2, 3, tyX2, rfl, ziX2, tyX2_ok, nmX2, by decide, q157, rfl, by decide +kernel, rfl⟩
theorem fd_X4_142 : zFd RX4 142 2 2 := ⟨RX2, TX2, 3, rfl, ziX2, by decide, q158⟩
theorem fp_X4_142 : zFp RX4 142 2 2 .int false := ⟨RX2, TX2, 3, tyX2, rfl, ziX2, tyX2_ok, nmX2, by decide, q158, rfl, by decide +kernel, rfl⟩
theorem fd_X3_11 : zFd RX3 11 3 0 := ⟨RX3, TX3, 5, rfl, ziX3, by decide, q172⟩
theorem fp_X3_11 : zFp RX3 11 3 0 .int false := ⟨RX3, TX3, 5, tyX3, rfl, ziX3, tyX3_ok, nmX3, by decide, q172, rfl, by decide +kernel, rfl⟩
theorem fd_X3_15 : zFd RX3 15 3 1 := ⟨RX3, TX3, 5, rfl, ziX3, by decide, q173⟩
theorem fp_X3_15 : zFp RX3 15 3 1 .int false := ⟨RX3, TX3, 5, tyX3, rfl, ziX3, tyX3_ok, nmX3, by decide, q173, rfl, by decide +kernel, rfl⟩
theorem fd_X3_18 : zFd RX3 18 3 2 := ⟨RX3, TX3, 5, rfl, ziX3, by decide, q174⟩
theorem fp_X3_18 : zFp RX3 18 3 2 .int false := ⟨RX3, TX3, 5, tyX3, rfl, ziX3, tyX3_ok, nmX3, by decide, q174, rfl, by decide +kernel, rfl⟩
theorem fd_X4_299 : zFd RX4 299 3 2 := ⟨RX3, TX3, 5, rfl, ziX3, by decide, q175⟩
theorem fp_X4_299 : zFp RX4 299 3 2 .int false := ⟨RX3, TX3, 5, tyX3, rfl, ziX3, tyX3_ok, nmX3, by decide, q175, rfl, by decide +kernel, rfl⟩
theorem fd_X3_21 : zFd RX3 21 3 3 := ⟨RX3, TX3, 5, rfl, ziX3, by decide, q176⟩
theorem fp_X3_21 : zFp RX3 21 3 3 .char false := ⟨RX3, TX3, 5, tyX3, rfl, ziX3, tyX3_ok, nmX3, by decide, q176, rfl, by decide +kernel, rfl⟩
theorem fd_X4_302 : zFd RX4 302 3 3 := ⟨RX3, TX3, 5, rfl, ziX3, by decide, q177⟩
theorem fp_X4_302 : zFp RX4 302 3 3 .char false := ⟨RX3, TX3, 5, tyX3, rfl, ziX3, tyX3_ok, nmX3, by decide, q177, rfl, by decide +kernel, rfl⟩
theorem fd_X3_25 : zFd RX3 25 3 4 := ⟨RX3, TX3, 5, rfl, ziX3, by decide, q178⟩
theorem fp_X3_25 : zFp RX3 25 3 4 .int false := ⟨RX3, TX3, 5, tyX3, rfl, ziX3, tyX3_ok, nmX3, by decide, q178, rfl, by decide +kernel, rfl⟩
theorem fd_X4_306 : zFd RX4 306 3 4 := ⟨RX3, TX3, 5, rfl, ziX3, by decide, q179⟩
theorem fp_X4_306 : zFp RX4 306 3 4 .int false := ⟨RX3, TX3, 5, tyX3, rfl, ziX3, tyX3_ok, nmX3, by decide, q179, rfl, by decide +kernel, rfl⟩
theorem fd_X4_10 : zFd RX4 10 4 0 := ⟨RX4, TX4, 8, rfl, ziX4, by decide, q194⟩
theorem fp_X4_10 : zFp RX4 10 4 0 (.object "HerdCords$Herd") true := ⟨RX4, TX4, 8, tyX4, rfl, ziX4, tyX4_ok, nmX4, by decide, q194, rfl, by decide +kernel, rfl⟩
theorem fd_X4_19 : zFd RX4 19 4 1 := ⟨RX4, TX4, 8, rfl, ziX4, by decide, q195⟩
theorem fp_X4_19 : zFp RX4 19 4 1 (.object "HerdCords$History") true := ⟨RX4, TX4, 8, tyX4, rfl, ziX4, tyX4_ok, nmX4, by decide, q195, rfl, by decide +kernel, rfl⟩
theorem fd_X4_23 : zFd RX4 23 4 2 := ⟨RX4, TX4, 8, rfl, ziX4, by decide, q196⟩
theorem fp_X4_23 : zFp RX4 23 4 2 (.array (.object "HerdCords$Herd")) true := ⟨RX4, TX4, 8, tyX4, rfl, ziX4, tyX4_ok, nmX4, by decide, q196, rfl, by decide +kernel, rfl⟩
theorem fd_X4_27 : zFd RX4 27 4 3 := ⟨RX4, TX4, 8, rfl, ziX4, by decide, q197⟩
theorem fp_X4_27 : zFp RX4 27 4 3 (.array .char) true := ⟨RX4, TX4, 8, tyX4, rfl, ziX4, tyX4_ok, nmX4, by decide, q197, rfl, by decide +kernel, rfl⟩
theorem fd_X4_31 : zFd RX4 31 4 4 := ⟨RX4, TX4, 8, rfl, ziX4, by decide, q198⟩
theorem fp_X4_31 : zFp RX4 31 4 4 .int false := ⟨RX4, TX4, 8, tyX4, rfl, ziX4, tyX4_ok, nmX4, by decide, q198, rfl, by decide +kernel, rfl⟩
theorem fd_X4_38 : zFd RX4 38 4 5 := ⟨RX4, TX4, 8, rfl, ziX4, by decide, q199⟩
theorem fp_X4_38 : zFp RX4 38 4 5 (.object "HerdCords$OrderReader") true := ⟨RX4, TX4, 8, tyX4, rfl, ziX4, tyX4_ok, nmX4, by decide, q199, rfl, by decide +kernel, rfl⟩
theorem fd_X4_45 : zFd RX4 45 4 6 := ⟨RX4, TX4, 8, rfl, ziX4, by decide, q200⟩
theorem fp_X4_45 : zFp RX4 45 4 6 (.object "HerdCords$Cord") true := ⟨RX4, TX4, 8, tyX4, rfl, ziX4, tyX4_ok, nmX4, by decide, q200, rfl, by decide +kernel, rfl⟩
theorem fd_X4_49 : zFd RX4 49 4 7 := ⟨RX4, TX4, 8, rfl, ziX4, by decide, q201⟩
theorem fp_X4_49 : zFp RX4 49 4 7 (.array .int) true := ⟨RX4, TX4, 8, tyX4, rfl, ziX4, tyX4_ok, nmX4, by decide, q201, rfl, by decide +kernel, rfl⟩
theorem fd_X5_35 : zFd RX5 35 5 0 := ⟨RX5, TX5, 12, rfl, ziX5, by decide, q772⟩
theorem fp_X5_35 : zFp RX5 35 5 0 .int false := ⟨RX5, TX5, 12, tyX5, rfl, ziX5, tyX5_ok, nmX5, by decide, q772, rfl, by decide +kernel, rfl⟩
theorem fd_X5_7 : zFd RX5 7 5 1 := ⟨RX5, TX5, 12, rfl, ziX5, by decide, q773⟩
theorem fp_X5_7 : zFp RX5 7 5 1 (.array .int) true := ⟨RX5, TX5, 12, tyX5, rfl, ziX5, tyX5_ok, nmX5, by decide, q773, rfl, by decide +kernel, rfl⟩
theorem fd_X5_13 : zFd RX5 13 5 2 := ⟨RX5, TX5, 12, rfl, ziX5, by decide, q774⟩
theorem fp_X5_13 : zFp RX5 13 5 2 (.array .int) true := ⟨RX5, TX5, 12, tyX5, rfl, ziX5, tyX5_ok, nmX5, by decide, q774, rfl, by decide +kernel, rfl⟩
theorem fd_X5_16 : zFd RX5 16 5 3 := ⟨RX5, TX5, 12, rfl, ziX5, by decide, q775⟩
theorem fp_X5_16 : zFp RX5 16 5 3 (.array .int) true := ⟨RX5, TX5, 12, tyX5, rfl, ziX5, tyX5_ok, nmX5, by decide, q775, rfl, by decide +kernel, rfl⟩
theorem fd_X5_19 : zFd RX5 19 5 4 := ⟨RX5, TX5, 12, rfl, ziX5, by decide, q776⟩
theorem fp_X5_19 : zFp RX5 19 5 4 (.array .boolean) true := ⟨RX5, TX5, 12, tyX5, rfl, ziX5, tyX5_ok, nmX5, by decide, q776, rfl, by decide +kernel, rfl⟩
theorem fd_X5_23 : zFd RX5 23 5 5 := ⟨RX5, TX5, 12, rfl, ziX5, by decide, q777⟩
theorem fp_X5_23 : zFp RX5 23 5 5 (.array .int) true := ⟨RX5, TX5, 12, tyX5, rfl, ziX5, tyX5_ok, nmX5, by decide, q777, rfl, by decide +kernel, rfl⟩
theorem fd_X5_47 : zFd RX5 47 5 6 := ⟨RX5, TX5, 12, rfl, ziX5, by decide, q778⟩
theorem fp_X5_47 : zFp RX5 47 5 6 .int false := ⟨RX5, TX5, 12, tyX5, rfl, ziX5, tyX5_ok, nmX5, by decide, q778, rfl, by decide +kernel, rfl⟩
theorem fd_X5_26 : zFd RX5 26 5 7 := ⟨RX5, TX5, 12, rfl, ziX5, by decide, q779⟩
theorem fp_X5_26 : zFp RX5 26 5 7 (.array .int) true := ⟨RX5, TX5, 12, tyX5, rfl, ziX5, tyX5_ok, nmX5, by decide, q779, rfl, by decide +kernel, rfl⟩
theorem fd_X5_104 : zFd RX5 104 5 8 := ⟨RX5, TX5, 12, rfl, ziX5, by decide, q780⟩
theorem fp_X5_104 : zFp RX5 104 5 8 .int false := ⟨RX5, TX5, 12, tyX5, rfl, ziX5, tyX5_ok, nmX5, by decide, q780, rfl, by decide +kernel, rfl⟩
theorem fd_X5_29 : zFd RX5 29 5 9 := ⟨RX5, TX5, 12, rfl, ziX5, by decide, q781⟩
theorem fp_X5_29 : zFp RX5 29 5 9 (.array .int) true := ⟨RX5, TX5, 12, tyX5, rfl, ziX5, tyX5_ok, nmX5, by decide, q781, rfl, by decide +kernel, rfl⟩
theorem fd_X5_32 : zFd RX5 32 5 10 := ⟨RX5, TX5, 12, rfl, ziX5, by decide, q782⟩
theorem fp_X5_32 : zFp RX5 32 5 10 (.array .int) true := ⟨RX5, TX5, 12, tyX5, rfl, ziX5, tyX5_ok, nmX5, by decide, q782, rfl, by decide +kernel, rfl⟩
theorem fd_X5_185 : zFd RX5 185 5 11 := ⟨RX5, TX5, 12, rfl, ziX5, by decide, q783⟩
theorem fp_X5_185 : zFp RX5 185 5 11 .long false := ⟨RX5, TX5, 12, tyX5, rfl, ziX5, tyX5_ok, nmX5, by decide, q783, rfl, by decide +kernel, rfl⟩
theorem lk_L_114 : zLv RL 114 4 yX4_clearBuffer cX4_clearBuffer 2 (some .int) 0 := zLv.of (T := TX4) (N := 8) rfl q219 q220 q221 q52 q222 (by decide +kernel)
theorem lk_L_118 : zLv RL 118 4 yX4_firstError cX4_firstError 1 (some .int) 0 := zLv.of (T := TX4) (N := 8) rfl q223 q224 q225 q52 q226 (by decide +kernel)
theorem lk_X4_111 : zLv RX4 111 4 yX4_readBuffer cX4_readBuffer 2 (some .int) 0 := zLv.of (T := TX4) (N := 8) rfl q227 q229 q0 q52 q230 (by decide +kernel)
theorem lk_X4_121 : zLv RX4 121 3 yX3_begin cX3_begin 1 none 0 := zLv.of (T := TX3) (N := 5) rfl q231 q232 q233 q56 q234 (by decide +kernel)
theorem lk_X4_127 : zLv RX4 127 3 yX3_takes cX3_takes 2 (some .boolean) 1 := zLv.of (T := TX3) (N := 5) rfl q235 q236 q237 q56 q238 (by decide +kernel)
theorem lk_X3_28 : zLv RX3 28 3 yX3_takesCord cX3_takesCord 2 (some .boolean) 1 := zLv.of (T := TX3) (N := 5) rfl q239 q241 q1 q56 q242 (by decide +kernel)
theorem lk_X3_32 : zLv RX3 32 3 yX3_takesKind cX3_takesKind 2 (some .boolean) 1 := zLv.of (T := TX3) (N := 5) rfl q243 q245 q2 q56 q246 (by decide +kernel)
theorem lk_X3_36 : zLv RX3 36 3 yX3_takesValue cX3_takesValue 2 (some .boolean) 1 := zLv.of (T := TX3) (N := 5) rfl q247 q249 q3 q56 q250 (by decide +kernel)
theorem lk_X3_46 : zLv RX3 46 3 yX3_mayBeginValue cX3_mayBeginValue 2 (some .boolean) 1 := zLv.of (T := TX3) (N := 5) rfl q251 q253 q4 q56 q254 (by decide +kernel)
theorem lk_X3_39 : zLv RX3 39 3 yX3_takesBetween cX3_takesBetween 1 (some .boolean) 0 := zLv.of (T := TX3) (N := 5) rfl q255 q257 q5 q56 q258 (by decide +kernel)
theorem lk_X3_43 : zLv RX3 43 3 yX3_takesDigit cX3_takesDigit 2 (some .boolean) 1 := zLv.of (T := TX3) (N := 5) rfl q259 q261 q6 q56 q262 (by decide +kernel)
theorem lk_L_160 : zLv RL 160 4 yX4_fullest cX4_fullest 1 (some .int) 0 := zLv.of (T := TX4) (N := 8) rfl q263 q264 q265 q52 q266 (by decide +kernel)
theorem lk_X4_244 : zLv RX4 244 1 yX1_fullestCord cX1_fullestCord 3 (some .int) 0 := zLv.of (T := TX1) (N := 7) rfl q267 q268 q269 q53 q270 (by decide +kernel)
theorem lk_X1_85 : zLv RX1 85 0 yX0_ties cX0_ties 1 (some .int) 0 := zLv.of (T := TX0) (N := 6) rfl q271 q272 q273 q54 q274 (by decide +kernel)
theorem lk_X0_52 : zLv RX0 52 0 yX0_allKnots cX0_allKnots 1 (some .int) 0 := zLv.of (T := TX0) (N := 6) rfl q275 q276 q277 q54 q278 (by decide +kernel)
theorem lk_X0_41 : zLs RX0 41 yX0_sumOf cX0_sumOf 4 (some .int) 2 := zLs.of q279 q280 q54 q281 (by decide +kernel)
theorem lk_X0_55 : zLv RX0 55 0 yX0_allLoops cX0_allLoops 1 (some .int) 0 := zLv.of (T := TX0) (N := 6) rfl q282 q283 q284 q54 q285 (by decide +kernel)
theorem lk_L_164 : zLv RL 164 4 yX4_closedShare cX4_closedShare 2 (some .double) 0 := zLv.of (T := TX4) (N := 8) rfl q286 q287 q288 q52 q289 (by decide +kernel)
theorem lk_X4_247 : zLv RX4 247 1 yX1_knots cX1_knots 6 (some .int) 0 := zLv.of (T := TX1) (N := 7) rfl q290 q291 q292 q53 q293 (by decide +kernel)
theorem lk_X1_45 : zLv RX1 45 0 yX0_allKnots cX0_allKnots 1 (some .int) 0 := zLv.of (T := TX0) (N := 6) rfl q294 q276 q277 q54 q278 (by decide +kernel)
theorem lk_X4_249 : zLv RX4 249 1 yX1_loops cX1_loops 6 (some .int) 0 := zLv.of (T := TX1) (N := 7) rfl q295 q296 q297 q53 q298 (by decide +kernel)
theorem lk_X1_49 : zLv RX1 49 0 yX0_allLoops cX0_allLoops 1 (some .int) 0 := zLv.of (T := TX0) (N := 6) rfl q299 q283 q284 q54 q285 (by decide +kernel)
theorem lk_L_169 : zLv RL 169 4 yX4_digest cX4_digest 4 (some .long) 0 := zLv.of (T := TX4) (N := 8) rfl q300 q301 q302 q52 q303 (by decide +kernel)
theorem lk_X4_253 : zLv RX4 253 4 yX4_count cX4_count 2 (some .int) 1 := zLv.of (T := TX4) (N := 8) rfl q305 q306 q307 q52 q308 (by decide +kernel)
theorem lk_X4_196 : zLv RX4 196 1 yX1_told cX1_told 6 (some .int) 0 := zLv.of (T := TX1) (N := 7) rfl q309 q310 q311 q53 q312 (by decide +kernel)
theorem lk_X1_60 : zLv RX1 60 0 yX0_told cX0_told 3 (some .int) 0 := zLv.of (T := TX0) (N := 6) rfl q313 q314 q315 q54 q316 (by decide +kernel)
theorem lk_X0_37 : zLv RX0 37 0 yX0_open cX0_open 2 (some .int) 1 := zLv.of (T := TX0) (N := 6) rfl q317 q318 q319 q54 q320 (by decide +kernel)
theorem lk_X4_137 : zLv RX4 137 1 yX1_ties cX1_ties 1 (some .int) 0 := zLv.of (T := TX1) (N := 7) rfl q321 q322 q323 q53 q324 (by decide +kernel)
theorem lk_X1_94 : zLv RX1 94 1 yX1_knots cX1_knots 6 (some .int) 0 := zLv.of (T := TX1) (N := 7) rfl q325 q291 q292 q53 q293 (by decide +kernel)
theorem lk_X1_96 : zLv RX1 96 1 yX1_loops cX1_loops 6 (some .int) 0 := zLv.of (T := TX1) (N := 7) rfl q326 q296 q297 q53 q298 (by decide +kernel)
theorem lk_X4_210 : zLv RX4 210 1 yX1_lacking cX1_lacking 6 (some .int) 0 := zLv.of (T := TX1) (N := 7) rfl q327 q328 q329 q53 q330 (by decide +kernel)
theorem lk_X1_67 : zLv RX1 67 0 yX0_lack cX0_lack 1 (some .int) 0 := zLv.of (T := TX0) (N := 6) rfl q331 q332 q333 q54 q334 (by decide +kernel)
theorem lk_X0_45 : zLv RX0 45 0 yX0_partsTogether cX0_partsTogether 1 (some .int) 0 := zLv.of (T := TX0) (N := 6) rfl q335 q336 q337 q54 q338 (by decide +kernel)
theorem lk_X0_49 : zLv RX0 49 0 yX0_told cX0_told 3 (some .int) 0 := zLv.of (T := TX0) (N := 6) rfl q339 q314 q315 q54 q316 (by decide +kernel)
theorem lk_X4_256 : zLs RX4 256 yX4_mix cX4_mix 4 (some .long) 2 := zLs.of q408 q409 q52 q410 (by decide +kernel)
theorem lk_X4_260 : zLv RX4 260 4 yX4_mixCord cX4_mixCord 8 (some .long) 2 := zLv.of (T := TX4) (N := 8) rfl q412 q414 q8 q52 q415 (by decide +kernel)
theorem lk_X4_323 : zLv RX4 323 4 yX4_cordOf cX4_cordOf 4 (some .int) 2 := zLv.of (T := TX4) (N := 8) rfl q416 q417 q418 q52 q419 (by decide +kernel)
theorem lk_X4_53 : zLv RX4 53 4 yX4_cordAt cX4_cordAt 2 (some (.object "HerdCords$Cord")) 1 := zLv.of (T := TX4) (N := 8) rfl q420 q422 q9 q52 q423 (by decide +kernel)
theorem lk_X4_150 : zLv RX4 150 0 yX0_told cX0_told 3 (some .int) 0 := zLv.of (T := TX0) (N := 6) rfl q440 q314 q315 q54 q316 (by decide +kernel)
theorem lk_X4_152 : zLv RX4 152 0 yX0_partsTogether cX0_partsTogether 1 (some .int) 0 := zLv.of (T := TX0) (N := 6) rfl q441 q336 q337 q54 q338 (by decide +kernel)
theorem lk_X4_158 : zLv RX4 158 0 yX0_lack cX0_lack 1 (some .int) 0 := zLv.of (T := TX0) (N := 6) rfl q442 q332 q333 q54 q334 (by decide +kernel)
theorem lk_X4_161 : zLv RX4 161 0 yX0_ties cX0_ties 1 (some .int) 0 := zLv.of (T := TX0) (N := 6) rfl q443 q272 q273 q54 q274 (by decide +kernel)
theorem lk_X4_162 : zLv RX4 162 0 yX0_allLoops cX0_allLoops 1 (some .int) 0 := zLv.of (T := TX0) (N := 6) rfl q444 q283 q284 q54 q285 (by decide +kernel)
theorem lk_X4_326 : zLv RX4 326 4 yX4_placeOf cX4_placeOf 5 (some .int) 3 := zLv.of (T := TX4) (N := 8) rfl q446 q447 q448 q52 q449 (by decide +kernel)
theorem lk_X4_80 : zLs RX4 80 yX4_checkPlace cX4_checkPlace 1 none 1 := zLs.of q450 q451 q52 q452 (by decide +kernel)
theorem lk_X4_176 : zLv RX4 176 0 yX0_open cX0_open 2 (some .int) 1 := zLv.of (T := TX0) (N := 6) rfl q454 q318 q319 q54 q320 (by decide +kernel)
theorem lk_X4_180 : zLv RX4 180 0 yX0_tiesAt cX0_tiesAt 2 (some .int) 1 := zLv.of (T := TX0) (N := 6) rfl q455 q456 q457 q54 q458 (by decide +kernel)
theorem lk_X4_183 : zLs RX4 183 yJ9_max_7cf53 cJ9_max_7cf53 2 (some .int) 2 := zLs.of q459 q460 q64 q461 (by decide +kernel)
theorem lk_X4_330 : zLv RX4 330 4 yX4_part cX4_part 4 (some .int) 2 := zLv.of (T := TX4) (N := 8) rfl q463 q464 q465 q52 q466 (by decide +kernel)
theorem lk_X4_333 : zLv RX4 333 4 yX4_whyNot cX4_whyNot 4 (some .int) 2 := zLv.of (T := TX4) (N := 8) rfl q468 q469 q470 q52 q471 (by decide +kernel)
theorem lk_X4_57 : zLs RX4 57 yX4_checkNumber cX4_checkNumber 1 none 1 := zLs.of q472 q473 q52 q474 (by decide +kernel)
theorem lk_X4_218 : zLv RX4 218 0 yX0_refusalOfPart cX0_refusalOfPart 3 (some .int) 2 := zLv.of (T := TX0) (N := 6) rfl q477 q478 q479 q54 q480 (by decide +kernel)
theorem lk_X0_66 : zLv RX0 66 0 yX0_refusal cX0_refusal 9 (some .int) 2 := zLv.of (T := TX0) (N := 6) rfl q481 q482 q483 q54 q484 (by decide +kernel)
theorem lk_X0_59 : zLv RX0 59 0 yX0_loopsFor cX0_loopsFor 3 (some .int) 2 := zLv.of (T := TX0) (N := 6) rfl q486 q488 q10 q54 q489 (by decide +kernel)
theorem lk_X0_63 : zLv RX0 63 0 yX0_tiesAt cX0_tiesAt 2 (some .int) 1 := zLv.of (T := TX0) (N := 6) rfl q490 q456 q457 q54 q458 (by decide +kernel)
theorem lk_X4_336 : zLv RX4 336 4 yX4_howOften cX4_howOften 5 (some .int) 2 := zLv.of (T := TX4) (N := 8) rfl q491 q492 q493 q52 q494 (by decide +kernel)
theorem lk_X4_221 : zLv RX4 221 0 yX0_copyFrom cX0_copyFrom 2 none 1 := zLv.of (T := TX0) (N := 6) rfl q495 q496 q497 q54 q498 (by decide +kernel)
theorem lk_X4_224 : zLv RX4 224 0 yX0_tieAsPart cX0_tieAsPart 2 none 1 := zLv.of (T := TX0) (N := 6) rfl q502 q503 q504 q54 q505 (by decide +kernel)
theorem lk_X0_69 : zLv RX0 69 0 yX0_tieKnots cX0_tieKnots 7 none 1 := zLv.of (T := TX0) (N := 6) rfl q506 q507 q508 q54 q509 (by decide +kernel)
theorem lk_X4_264 : zLv RX4 264 4 yX4_byHue cX4_byHue 2 (some .int) 1 := zLv.of (T := TX4) (N := 8) rfl q510 q511 q512 q52 q513 (by decide +kernel)
theorem lk_X4_93 : zLs RX4 93 yX4_checkHue cX4_checkHue 1 none 1 := zLs.of q514 q515 q52 q516 (by decide +kernel)
theorem lk_X4_215 : zLv RX4 215 1 yX1_toldInHue cX1_toldInHue 7 (some .int) 1 := zLv.of (T := TX1) (N := 7) rfl q518 q519 q520 q53 q521 (by decide +kernel)
theorem lk_X4_267 : zLv RX4 267 4 yX4_cordsFor cX4_cordsFor 3 (some .int) 2 := zLv.of (T := TX4) (N := 8) rfl q522 q523 q524 q52 q525 (by decide +kernel)
theorem lk_X4_232 : zLv RX4 232 1 yX1_tellEach cX1_tellEach 3 none 1 := zLv.of (T := TX1) (N := 7) rfl q529 q530 q531 q53 q532 (by decide +kernel)
theorem lk_X4_236 : zLs RX4 236 yX4_bestOfAllSets cX4_bestOfAllSets 4 (some .int) 2 := zLs.of q533 q534 q52 q535 (by decide +kernel)
theorem lk_X4_309 : zLs RX4 309 yX4_toldBySet cX4_toldBySet 4 (some .int) 2 := zLs.of q536 q537 q52 q538 (by decide +kernel)
theorem lk_X4_312 : zLs RX4 312 yX4_better cX4_better 3 (some .int) 2 := zLs.of q539 q540 q52 q541 (by decide +kernel)
theorem lk_X4_315 : zLs RX4 315 yJ6_bitCount_0f7a4 cJ6_bitCount_0f7a4 1 (some .int) 1 := zLs.of q542 q543 q66 q544 (by decide +kernel)
theorem lk_X4_320 : zLs RX4 320 yJ6_compare_7cf53 cJ6_compare_7cf53 2 (some .int) 2 := zLs.of q548 q549 q66 q550 (by decide +kernel)
theorem lk_X4_240 : zLs RX4 240 yX4_bestByTrying cX4_bestByTrying 6 (some .int) 5 := zLs.of q551 q552 q52 q553 (by decide +kernel)
theorem lk_X4_270 : zLv RX4 270 4 yX4_fullest cX4_fullest 1 (some .int) 0 := zLv.of (T := TX4) (N := 8) rfl q554 q264 q265 q52 q266 (by decide +kernel)
theorem lk_X4_273 : zLv RX4 273 4 yX4_closedShare cX4_closedShare 2 (some .double) 0 := zLv.of (T := TX4) (N := 8) rfl q555 q287 q288 q52 q289 (by decide +kernel)
theorem lk_X4_277 : zLs RX4 277 yX4_bitsOfShare cX4_bitsOfShare 8 (some .long) 1 := zLs.of q556 q557 q52 q558 (by decide +kernel)
theorem lk_L_7 : zLv RL 7 4 yX4_tie cX4_tie 4 (some .int) 2 := zLv.of (T := TX4) (N := 8) rfl q567 q568 q569 q52 q570 (by decide +kernel)
theorem lk_X4_61 : zLv RX4 61 2 yX2_save cX2_save 2 none 1 := zLv.of (T := TX2) (N := 3) rfl q571 q572 q573 q55 q574 (by decide +kernel)
theorem lk_X2_25 : zLv RX2 25 1 yX1_copyFrom cX1_copyFrom 3 none 1 := zLv.of (T := TX1) (N := 7) rfl q575 q576 q577 q53 q578 (by decide +kernel)
theorem lk_X1_37 : zLv RX1 37 0 yX0_copyFrom cX0_copyFrom 2 none 1 := zLv.of (T := TX0) (N := 6) rfl q579 q496 q497 q54 q498 (by decide +kernel)
theorem lk_X2_29 : zLs RX2 29 yJ9_min_7cf53 cJ9_min_7cf53 2 (some .int) 2 := zLs.of q580 q581 q64 q582 (by decide +kernel)
theorem lk_X4_65 : zLv RX4 65 1 yX1_tiePart cX1_tiePart 6 (some .int) 2 := zLv.of (T := TX1) (N := 7) rfl q583 q584 q585 q53 q586 (by decide +kernel)
theorem lk_X1_41 : zLv RX1 41 0 yX0_refusalOfPart cX0_refusalOfPart 3 (some .int) 2 := zLv.of (T := TX0) (N := 6) rfl q587 q478 q479 q54 q480 (by decide +kernel)
theorem lk_X1_52 : zLv RX1 52 0 yX0_tieAsPart cX0_tieAsPart 2 none 1 := zLv.of (T := TX0) (N := 6) rfl q588 q503 q504 q54 q505 (by decide +kernel)
theorem lk_X1_56 : zLv RX1 56 1 yX1_countTied cX1_countTied 5 (some .int) 3 := zLv.of (T := TX1) (N := 7) rfl q589 q591 q11 q53 q592 (by decide +kernel)
theorem lk_L_17 : zLv RL 17 4 yX4_add cX4_add 5 (some .int) 2 := zLv.of (T := TX4) (N := 8) rfl q596 q597 q598 q52 q599 (by decide +kernel)
theorem lk_X4_76 : zLv RX4 76 1 yX1_tieCord cX1_tieCord 4 (some .int) 2 := zLv.of (T := TX1) (N := 7) rfl q601 q602 q603 q53 q604 (by decide +kernel)
theorem lk_X1_63 : zLv RX1 63 1 yX1_tiePart cX1_tiePart 6 (some .int) 2 := zLv.of (T := TX1) (N := 7) rfl q605 q584 q585 q53 q586 (by decide +kernel)
theorem lk_L_20 : zLv RL 20 4 yX4_slip cX4_slip 4 (some .int) 2 := zLv.of (T := TX4) (N := 8) rfl q609 q610 q611 q52 q612 (by decide +kernel)
theorem lk_X4_83 : zLv RX4 83 1 yX1_loosen cX1_loosen 3 (some .int) 2 := zLv.of (T := TX1) (N := 7) rfl q613 q614 q615 q53 q616 (by decide +kernel)
theorem lk_X1_76 : zLv RX1 76 0 yX0_open cX0_open 2 (some .int) 1 := zLv.of (T := TX0) (N := 6) rfl q617 q318 q319 q54 q320 (by decide +kernel)
theorem lk_L_23 : zLv RL 23 4 yX4_mend cX4_mend 3 (some .int) 1 := zLv.of (T := TX4) (N := 8) rfl q621 q622 q623 q52 q624 (by decide +kernel)
theorem lk_X4_86 : zLv RX4 86 1 yX1_tieLack cX1_tieLack 6 (some .int) 1 := zLv.of (T := TX1) (N := 7) rfl q625 q626 q627 q53 q628 (by decide +kernel)
theorem lk_X1_70 : zLv RX1 70 0 yX0_refusal cX0_refusal 9 (some .int) 2 := zLv.of (T := TX0) (N := 6) rfl q629 q482 q483 q54 q484 (by decide +kernel)
theorem lk_X1_73 : zLv RX1 73 0 yX0_tieKnots cX0_tieKnots 7 none 1 := zLv.of (T := TX0) (N := 6) rfl q630 q507 q508 q54 q509 (by decide +kernel)
theorem lk_L_27 : zLv RL 27 4 yX4_renew cX4_renew 3 (some .int) 1 := zLv.of (T := TX4) (N := 8) rfl q634 q635 q636 q52 q637 (by decide +kernel)
theorem lk_X4_90 : zLv RX4 90 1 yX1_replace cX1_replace 3 (some .int) 1 := zLv.of (T := TX1) (N := 7) rfl q638 q639 q640 q53 q641 (by decide +kernel)
theorem lk_X1_88 : zLv RX1 88 0 yX0_becomeNew cX0_becomeNew 2 none 0 := zLv.of (T := TX0) (N := 6) rfl q642 q643 q644 q54 q645 (by decide +kernel)
theorem lk_L_30 : zLv RL 30 4 yX4_dye cX4_dye 5 (some .int) 2 := zLv.of (T := TX4) (N := 8) rfl q649 q650 q651 q52 q652 (by decide +kernel)
theorem lk_L_33 : zLv RL 33 4 yX4_set cX4_set 3 (some .int) 1 := zLv.of (T := TX4) (N := 8) rfl q656 q657 q658 q52 q659 (by decide +kernel)
theorem lk_L_36 : zLv RL 36 4 yX4_append cX4_append 2 (some .int) 1 := zLv.of (T := TX4) (N := 8) rfl q665 q666 q667 q52 q668 (by decide +kernel)
theorem lk_L_41 : zLv RL 41 4 yX4_run cX4_run 4 (some .int) 0 := zLv.of (T := TX4) (N := 8) rfl q689 q690 q691 q52 q692 (by decide +kernel)
theorem lk_X4_115 : zLv RX4 115 3 yX3_hasWholeOrder cX3_hasWholeOrder 1 (some .boolean) 0 := zLv.of (T := TX3) (N := 5) rfl q693 q694 q695 q56 q696 (by decide +kernel)
theorem lk_X4_124 : zLv RX4 124 4 yX4_doOrderRead cX4_doOrderRead 3 (some .boolean) 0 := zLv.of (T := TX4) (N := 8) rfl q698 q700 q12 q52 q701 (by decide +kernel)
theorem lk_L_45 : zLv RL 45 4 yX4_keep cX4_keep 3 (some .int) 1 := zLv.of (T := TX4) (N := 8) rfl q705 q706 q707 q52 q708 (by decide +kernel)
theorem lk_X4_131 : zLs RX4 131 yX4_checkSlot cX4_checkSlot 1 none 1 := zLs.of q709 q710 q52 q711 (by decide +kernel)
theorem lk_X4_134 : zLv RX4 134 1 yX1_copyFrom cX1_copyFrom 3 none 1 := zLv.of (T := TX1) (N := 7) rfl q713 q576 q577 q53 q578 (by decide +kernel)
theorem lk_L_48 : zLv RL 48 4 yX4_goBack cX4_goBack 3 (some .int) 1 := zLv.of (T := TX4) (N := 8) rfl q717 q718 q719 q52 q720 (by decide +kernel)
theorem lk_L_51 : zLv RL 51 4 yX4_undo cX4_undo 1 (some .int) 0 := zLv.of (T := TX4) (N := 8) rfl q725 q726 q727 q52 q728 (by decide +kernel)
theorem lk_X4_147 : zLv RX4 147 2 yX2_restore cX2_restore 2 none 1 := zLv.of (T := TX2) (N := 3) rfl q730 q731 q732 q55 q733 (by decide +kernel)
theorem lk_L_54 : zLv RL 54 4 yX4_cordOf cX4_cordOf 4 (some .int) 2 := zLv.of (T := TX4) (N := 8) rfl q737 q417 q418 q52 q419 (by decide +kernel)
theorem lk_L_57 : zLv RL 57 4 yX4_placeOf cX4_placeOf 5 (some .int) 3 := zLv.of (T := TX4) (N := 8) rfl q741 q447 q448 q52 q449 (by decide +kernel)
theorem lk_L_61 : zLv RL 61 4 yX4_part cX4_part 4 (some .int) 2 := zLv.of (T := TX4) (N := 8) rfl q745 q464 q465 q52 q466 (by decide +kernel)
theorem lk_L_64 : zLv RL 64 4 yX4_count cX4_count 2 (some .int) 1 := zLv.of (T := TX4) (N := 8) rfl q749 q306 q307 q52 q308 (by decide +kernel)
theorem lk_L_67 : zLv RL 67 4 yX4_byHue cX4_byHue 2 (some .int) 1 := zLv.of (T := TX4) (N := 8) rfl q753 q511 q512 q52 q513 (by decide +kernel)
theorem lk_L_70 : zLv RL 70 4 yX4_whyNot cX4_whyNot 4 (some .int) 2 := zLv.of (T := TX4) (N := 8) rfl q757 q469 q470 q52 q471 (by decide +kernel)
theorem lk_L_73 : zLv RL 73 4 yX4_howOften cX4_howOften 5 (some .int) 2 := zLv.of (T := TX4) (N := 8) rfl q761 q492 q493 q52 q494 (by decide +kernel)
theorem lk_L_76 : zLv RL 76 4 yX4_cordsFor cX4_cordsFor 3 (some .int) 2 := zLv.of (T := TX4) (N := 8) rfl q765 q523 q524 q52 q525 (by decide +kernel)
theorem lk_L_89 : zLv RL 89 5 yX5_thrown cX5_thrown 1 (some .int) 0 := zLv.of (T := TX5) (N := 12) rfl q810 q811 q812 q57 q813 (by decide +kernel)
theorem lk_L_88 : zLv RL 88 5 yX5_tie cX5_tie 3 (some .int) 2 := zLv.of (T := TX5) (N := 12) rfl q814 q815 q816 q57 q817 (by decide +kernel)
theorem lk_X5_82 : zLs RX5 82 yX5_isCord cX5_isCord 1 (some .boolean) 1 := zLs.of q818 q819 q57 q820 (by decide +kernel)
theorem lk_X5_39 : zLs RX5 39 yX5_in cX5_in 3 (some .boolean) 3 := zLs.of q821 q822 q57 q823 (by decide +kernel)
theorem lk_X5_86 : zLv RX5 86 5 yX5_holds cX5_holds 2 (some .boolean) 1 := zLv.of (T := TX5) (N := 12) rfl q825 q827 q13 q57 q828 (by decide +kernel)
theorem lk_X5_89 : zLv RX5 89 5 yX5_save cX5_save 2 none 0 := zLv.of (T := TX5) (N := 12) rfl q829 q831 q14 q57 q832 (by decide +kernel)
theorem lk_X5_76 : zLv RX5 76 5 yX5_tiesPart cX5_tiesPart 4 (some .int) 2 := zLv.of (T := TX5) (N := 12) rfl q833 q835 q15 q57 q836 (by decide +kernel)
theorem lk_X5_70 : zLv RX5 70 5 yX5_reasonFor cX5_reasonFor 3 (some .int) 2 := zLv.of (T := TX5) (N := 12) rfl q837 q839 q16 q57 q840 (by decide +kernel)
theorem lk_X5_50 : zLv RX5 50 5 yX5_of cX5_of 3 (some .int) 2 := zLv.of (T := TX5) (N := 12) rfl q841 q843 q17 q57 q844 (by decide +kernel)
theorem lk_X5_43 : zLs RX5 43 yX5_at cX5_at 2 (some .int) 2 := zLs.of q845 q846 q57 q847 (by decide +kernel)
theorem lk_X5_67 : zLv RX5 67 5 yX5_lays cX5_lays 9 (some .int) 2 := zLv.of (T := TX5) (N := 12) rfl q848 q850 q18 q57 q851 (by decide +kernel)
theorem lk_X5_60 : zLv RX5 60 5 yX5_told cX5_told 4 (some .int) 1 := zLv.of (T := TX5) (N := 12) rfl q852 q854 q19 q57 q855 (by decide +kernel)
theorem lk_X5_53 : zLv RX5 53 5 yX5_open cX5_open 3 (some .int) 2 := zLv.of (T := TX5) (N := 12) rfl q856 q858 q20 q57 q859 (by decide +kernel)
theorem lk_X5_73 : zLv RX5 73 5 yX5_knits cX5_knits 4 (some .int) 1 := zLv.of (T := TX5) (N := 12) rfl q860 q862 q21 q57 q863 (by decide +kernel)
theorem lk_L_94 : zLv RL 94 5 yX5_add cX5_add 3 (some .int) 2 := zLv.of (T := TX5) (N := 12) rfl q864 q865 q866 q57 q867 (by decide +kernel)
theorem lk_X5_92 : zLv RX5 92 5 yX5_adds cX5_adds 3 (some .int) 2 := zLv.of (T := TX5) (N := 12) rfl q868 q870 q22 q57 q871 (by decide +kernel)
theorem lk_L_97 : zLv RL 97 5 yX5_slip cX5_slip 3 (some .int) 2 := zLv.of (T := TX5) (N := 12) rfl q872 q873 q874 q57 q875 (by decide +kernel)
theorem lk_X5_95 : zLv RX5 95 5 yX5_slips cX5_slips 3 (some .int) 2 := zLv.of (T := TX5) (N := 12) rfl q876 q878 q23 q57 q879 (by decide +kernel)
theorem lk_L_101 : zLv RL 101 5 yX5_mend cX5_mend 2 (some .int) 1 := zLv.of (T := TX5) (N := 12) rfl q880 q881 q882 q57 q883 (by decide +kernel)
theorem lk_X5_98 : zLv RX5 98 5 yX5_mends cX5_mends 5 (some .int) 1 := zLv.of (T := TX5) (N := 12) rfl q884 q886 q24 q57 q887 (by decide +kernel)
theorem lk_X5_79 : zLv RX5 79 5 yX5_lacks cX5_lacks 2 (some .int) 1 := zLv.of (T := TX5) (N := 12) rfl q888 q890 q25 q57 q891 (by decide +kernel)
theorem lk_X5_56 : zLv RX5 56 5 yX5_partsTold cX5_partsTold 4 (some .int) 1 := zLv.of (T := TX5) (N := 12) rfl q892 q894 q26 q57 q895 (by decide +kernel)
theorem lk_L_104 : zLv RL 104 5 yX5_renew cX5_renew 4 (some .int) 1 := zLv.of (T := TX5) (N := 12) rfl q896 q897 q898 q57 q899 (by decide +kernel)
theorem lk_X5_63 : zLv RX5 63 5 yX5_ties cX5_ties 4 (some .int) 1 := zLv.of (T := TX5) (N := 12) rfl q900 q902 q27 q57 q903 (by decide +kernel)
theorem lk_L_107 : zLv RL 107 5 yX5_dye cX5_dye 3 (some .int) 2 := zLv.of (T := TX5) (N := 12) rfl q904 q905 q906 q57 q907 (by decide +kernel)
theorem lk_X5_101 : zLv RX5 101 5 yX5_puts cX5_puts 4 (some .int) 2 := zLv.of (T := TX5) (N := 12) rfl q908 q910 q28 q57 q911 (by decide +kernel)
theorem lk_L_110 : zLv RL 110 5 yX5_set cX5_set 2 (some .int) 1 := zLv.of (T := TX5) (N := 12) rfl q912 q913 q914 q57 q915 (by decide +kernel)
theorem lk_L_113 : zLv RL 113 5 yX5_append cX5_append 2 (some .int) 1 := zLv.of (T := TX5) (N := 12) rfl q916 q917 q918 q57 q919 (by decide +kernel)
theorem lk_L_117 : zLv RL 117 5 yX5_clearBuffer cX5_clearBuffer 2 (some .int) 0 := zLv.of (T := TX5) (N := 12) rfl q920 q921 q922 q57 q923 (by decide +kernel)
theorem lk_L_121 : zLv RL 121 5 yX5_firstError cX5_firstError 1 (some .int) 0 := zLv.of (T := TX5) (N := 12) rfl q924 q925 q926 q57 q927 (by decide +kernel)
theorem lk_X5_119 : zLv RX5 119 5 yX5_wrong cX5_wrong 3 (some .int) 0 := zLv.of (T := TX5) (N := 12) rfl q928 q930 q29 q57 q931 (by decide +kernel)
theorem lk_X5_116 : zLv RX5 116 5 yX5_behindOrder cX5_behindOrder 4 (some .int) 1 := zLv.of (T := TX5) (N := 12) rfl q932 q934 q30 q57 q935 (by decide +kernel)
theorem lk_X5_110 : zLv RX5 110 5 yX5_digitAt cX5_digitAt 2 (some .int) 1 := zLv.of (T := TX5) (N := 12) rfl q936 q938 q31 q57 q939 (by decide +kernel)
theorem lk_X5_107 : zLv RX5 107 5 yX5_charAt cX5_charAt 2 (some .int) 1 := zLv.of (T := TX5) (N := 12) rfl q940 q942 q32 q57 q943 (by decide +kernel)
theorem lk_X5_113 : zLv RX5 113 5 yX5_behindNumber cX5_behindNumber 3 (some .int) 1 := zLv.of (T := TX5) (N := 12) rfl q944 q946 q33 q57 q947 (by decide +kernel)
theorem lk_L_125 : zLv RL 125 5 yX5_run cX5_run 5 (some .int) 0 := zLv.of (T := TX5) (N := 12) rfl q948 q949 q950 q57 q951 (by decide +kernel)
theorem lk_X5_123 : zLv RX5 123 5 yX5_does cX5_does 6 (some .boolean) 2 := zLv.of (T := TX5) (N := 12) rfl q952 q954 q34 q57 q955 (by decide +kernel)
theorem lk_L_128 : zLv RL 128 5 yX5_keep cX5_keep 3 (some .int) 1 := zLv.of (T := TX5) (N := 12) rfl q956 q957 q958 q57 q959 (by decide +kernel)
theorem lk_X5_127 : zLv RX5 127 5 yX5_allTies cX5_allTies 3 (some .int) 0 := zLv.of (T := TX5) (N := 12) rfl q960 q962 q35 q57 q963 (by decide +kernel)
theorem lk_L_131 : zLv RL 131 5 yX5_goBack cX5_goBack 4 (some .int) 1 := zLv.of (T := TX5) (N := 12) rfl q964 q965 q966 q57 q967 (by decide +kernel)
theorem lk_L_134 : zLv RL 134 5 yX5_undo cX5_undo 2 (some .int) 0 := zLv.of (T := TX5) (N := 12) rfl q968 q969 q970 q57 q971 (by decide +kernel)
theorem lk_L_137 : zLv RL 137 5 yX5_cordOf cX5_cordOf 3 (some .int) 2 := zLv.of (T := TX5) (N := 12) rfl q972 q973 q974 q57 q975 (by decide +kernel)
theorem lk_X5_133 : zLv RX5 133 5 yX5_number cX5_number 3 (some .int) 2 := zLv.of (T := TX5) (N := 12) rfl q976 q978 q36 q57 q979 (by decide +kernel)
theorem lk_X5_130 : zLv RX5 130 5 yX5_loopsOf cX5_loopsOf 4 (some .int) 1 := zLv.of (T := TX5) (N := 12) rfl q980 q982 q37 q57 q983 (by decide +kernel)
theorem lk_L_141 : zLv RL 141 5 yX5_placeOf cX5_placeOf 4 (some .int) 3 := zLv.of (T := TX5) (N := 12) rfl q984 q985 q986 q57 q987 (by decide +kernel)
theorem lk_X5_136 : zLv RX5 136 5 yX5_atPlace cX5_atPlace 5 (some .int) 3 := zLv.of (T := TX5) (N := 12) rfl q988 q990 q38 q57 q991 (by decide +kernel)
theorem lk_L_144 : zLv RL 144 5 yX5_part cX5_part 3 (some .int) 2 := zLv.of (T := TX5) (N := 12) rfl q992 q993 q994 q57 q995 (by decide +kernel)
theorem lk_L_147 : zLv RL 147 5 yX5_count cX5_count 2 (some .int) 1 := zLv.of (T := TX5) (N := 12) rfl q996 q997 q998 q57 q999 (by decide +kernel)
theorem lk_X5_143 : zLv RX5 143 5 yX5_counted cX5_counted 2 (some .int) 1 := zLv.of (T := TX5) (N := 12) rfl q1000 q1002 q39 q57 q1003 (by decide +kernel)
theorem lk_X5_140 : zLv RX5 140 5 yX5_sumOf cX5_sumOf 4 (some .int) 1 := zLv.of (T := TX5) (N := 12) rfl q1004 q1006 q40 q57 q1007 (by decide +kernel)
theorem lk_L_150 : zLv RL 150 5 yX5_byHue cX5_byHue 2 (some .int) 1 := zLv.of (T := TX5) (N := 12) rfl q1008 q1009 q1010 q57 q1011 (by decide +kernel)
theorem lk_X5_146 : zLv RX5 146 5 yX5_ofHue cX5_ofHue 4 (some .int) 1 := zLv.of (T := TX5) (N := 12) rfl q1012 q1014 q41 q57 q1015 (by decide +kernel)
theorem lk_L_153 : zLv RL 153 5 yX5_whyNot cX5_whyNot 3 (some .int) 2 := zLv.of (T := TX5) (N := 12) rfl q1016 q1017 q1018 q57 q1019 (by decide +kernel)
theorem lk_L_156 : zLv RL 156 5 yX5_howOften cX5_howOften 3 (some .int) 2 := zLv.of (T := TX5) (N := 12) rfl q1020 q1021 q1022 q57 q1023 (by decide +kernel)
theorem lk_X5_155 : zLv RX5 155 5 yX5_times cX5_times 4 (some .int) 2 := zLv.of (T := TX5) (N := 12) rfl q1024 q1026 q42 q57 q1027 (by decide +kernel)
theorem lk_X5_149 : zLv RX5 149 5 yX5_putAside cX5_putAside 2 none 0 := zLv.of (T := TX5) (N := 12) rfl q1028 q1030 q43 q57 q1031 (by decide +kernel)
theorem lk_X5_152 : zLv RX5 152 5 yX5_putBack cX5_putBack 2 none 0 := zLv.of (T := TX5) (N := 12) rfl q1032 q1034 q44 q57 q1035 (by decide +kernel)
theorem lk_L_159 : zLv RL 159 5 yX5_cordsFor cX5_cordsFor 3 (some .int) 2 := zLv.of (T := TX5) (N := 12) rfl q1036 q1037 q1038 q57 q1039 (by decide +kernel)
theorem lk_X5_165 : zLv RX5 165 5 yX5_setFor cX5_setFor 4 (some .int) 1 := zLv.of (T := TX5) (N := 12) rfl q1041 q1043 q45 q57 q1044 (by decide +kernel)
theorem lk_X5_158 : zLv RX5 158 5 yX5_toldBy cX5_toldBy 4 (some .int) 1 := zLv.of (T := TX5) (N := 12) rfl q1045 q1047 q46 q57 q1048 (by decide +kernel)
theorem lk_X5_161 : zLs RX5 161 yX5_many cX5_many 3 (some .int) 1 := zLs.of q1049 q1050 q57 q1051 (by decide +kernel)
theorem lk_L_163 : zLv RL 163 5 yX5_fullest cX5_fullest 1 (some .int) 0 := zLv.of (T := TX5) (N := 12) rfl q1052 q1053 q1054 q57 q1055 (by decide +kernel)
theorem lk_X5_168 : zLv RX5 168 5 yX5_fullestOne cX5_fullestOne 3 (some .int) 0 := zLv.of (T := TX5) (N := 12) rfl q1056 q1058 q47 q57 q1059 (by decide +kernel)
theorem lk_L_168 : zLv RL 168 5 yX5_closedShare cX5_closedShare 1 (some .double) 0 := zLv.of (T := TX5) (N := 12) rfl q1060 q1061 q1062 q57 q1063 (by decide +kernel)
theorem lk_X5_171 : zLv RX5 171 5 yX5_share cX5_share 4 (some .double) 0 := zLv.of (T := TX5) (N := 12) rfl q1064 q1066 q48 q57 q1067 (by decide +kernel)
theorem lk_L_173 : zLv RL 173 5 yX5_digest cX5_digest 2 (some .long) 0 := zLv.of (T := TX5) (N := 12) rfl q1068 q1069 q1070 q57 q1071 (by decide +kernel)
theorem lk_X5_189 : zLv RX5 189 5 yX5_digestOne cX5_digestOne 3 none 1 := zLv.of (T := TX5) (N := 12) rfl q1073 q1075 q49 q57 q1076 (by decide +kernel)
theorem lk_X5_195 : zLv RX5 195 5 yX5_digestCord cX5_digestCord 3 none 1 := zLv.of (T := TX5) (N := 12) rfl q1078 q1080 q50 q57 q1081 (by decide +kernel)
theorem lk_X5_199 : zLs RX5 199 yX5_bitsOf cX5_bitsOf 6 (some .long) 1 := zLs.of q1082 q1083 q57 q1084 (by decide +kernel)
