section
-- ===== PART A: goes FIRST, ahead of the names: the tables' words, and 'selects' of the private methods out of them =====
/-- a private method of a class that the tables say can be made, by its rows of tables_1 -/
def lw_okq (q : MethodName × Nat) : Prop := (q.1.cls ≠ "java/lang/invoke/MethodHandle" ∧ q.1.cls ≠ "java/lang/invoke/VarHandle") ∧ Cond.instantiable q.1.cls q.2 ∈ tables_1 ∧ Cond.privateMethod q.1 ∈ tables_1 ∧ Cond.instanceMethod q.1 ∈ tables_1
theorem lw_p0 : lw_okq (⟨"HerdCords", "readBuffer", "()I"⟩, 8) := ⟨⟨by decide +kernel, by decide +kernel⟩, List.mem_of_getElem? (i := 17) (by decide +kernel), List.mem_of_getElem? (i := 177) (by decide +kernel), List.mem_of_getElem? (i := 178) (by decide +kernel)⟩
theorem lw_p1 : lw_okq (⟨"HerdCords$OrderReader", "takesCord", "(I)Z"⟩, 5) := ⟨⟨by decide +kernel, by decide +kernel⟩, List.mem_of_getElem? (i := 116) (by decide +kernel), List.mem_of_getElem? (i := 189) (by decide +kernel), List.mem_of_getElem? (i := 190) (by decide +kernel)⟩
theorem lw_p2 : lw_okq (⟨"HerdCords$OrderReader", "takesKind", "(C)Z"⟩, 5) := ⟨⟨by decide +kernel, by decide +kernel⟩, List.mem_of_getElem? (i := 116) (by decide +kernel), List.mem_of_getElem? (i := 193) (by decide +kernel), List.mem_of_getElem? (i := 194) (by decide +kernel)⟩
theorem lw_p3 : lw_okq (⟨"HerdCords$OrderReader", "takesValue", "(I)Z"⟩, 5) := ⟨⟨by decide +kernel, by decide +kernel⟩, List.mem_of_getElem? (i := 116) (by decide +kernel), List.mem_of_getElem? (i := 197) (by decide +kernel), List.mem_of_getElem? (i := 198) (by decide +kernel)⟩
theorem lw_p4 : lw_okq (⟨"HerdCords$OrderReader", "mayBeginValue", "(I)Z"⟩, 5) := ⟨⟨by decide +kernel, by decide +kernel⟩, List.mem_of_getElem? (i := 116) (by decide +kernel), List.mem_of_getElem? (i := 201) (by decide +kernel), List.mem_of_getElem? (i := 202) (by decide +kernel)⟩
theorem lw_p5 : lw_okq (⟨"HerdCords$OrderReader", "takesBetween", "()Z"⟩, 5) := ⟨⟨by decide +kernel, by decide +kernel⟩, List.mem_of_getElem? (i := 116) (by decide +kernel), List.mem_of_getElem? (i := 205) (by decide +kernel), List.mem_of_getElem? (i := 206) (by decide +kernel)⟩
theorem lw_p6 : lw_okq (⟨"HerdCords$OrderReader", "takesDigit", "(I)Z"⟩, 5) := ⟨⟨by decide +kernel, by decide +kernel⟩, List.mem_of_getElem? (i := 116) (by decide +kernel), List.mem_of_getElem? (i := 209) (by decide +kernel), List.mem_of_getElem? (i := 210) (by decide +kernel)⟩
theorem lw_p7 : lw_okq (⟨"java/lang/Throwable", "fillInStackTrace", "(I)Ljava/lang/Throwable;"⟩, 6) := ⟨⟨by decide +kernel, by decide +kernel⟩, List.mem_of_getElem? (i := 328) (by decide +kernel), List.mem_of_getElem? (i := 326) (by decide +kernel), List.mem_of_getElem? (i := 327) (by decide +kernel)⟩
theorem lw_p8 : lw_okq (⟨"HerdCords", "mixCord", "(JI)J"⟩, 8) := ⟨⟨by decide +kernel, by decide +kernel⟩, List.mem_of_getElem? (i := 17) (by decide +kernel), List.mem_of_getElem? (i := 362) (by decide +kernel), List.mem_of_getElem? (i := 363) (by decide +kernel)⟩
theorem lw_p9 : lw_okq (⟨"HerdCords", "cordAt", "(I)LHerdCords$Cord;"⟩, 8) := ⟨⟨by decide +kernel, by decide +kernel⟩, List.mem_of_getElem? (i := 17) (by decide +kernel), List.mem_of_getElem? (i := 370) (by decide +kernel), List.mem_of_getElem? (i := 371) (by decide +kernel)⟩
theorem lw_p10 : lw_okq (⟨"HerdCords$Cord", "loopsFor", "(II)I"⟩, 6) := ⟨⟨by decide +kernel, by decide +kernel⟩, List.mem_of_getElem? (i := 32) (by decide +kernel), List.mem_of_getElem? (i := 436) (by decide +kernel), List.mem_of_getElem? (i := 437) (by decide +kernel)⟩
theorem lw_p11 : lw_okq (⟨"HerdCords$Herd", "countTied", "(LHerdCords$Cord;II)I"⟩, 7) := ⟨⟨by decide +kernel, by decide +kernel⟩, List.mem_of_getElem? (i := 25) (by decide +kernel), List.mem_of_getElem? (i := 539) (by decide +kernel), List.mem_of_getElem? (i := 540) (by decide +kernel)⟩
theorem lw_p12 : lw_okq (⟨"HerdCords", "doOrders", "()I"⟩, 8) := ⟨⟨by decide +kernel, by decide +kernel⟩, List.mem_of_getElem? (i := 17) (by decide +kernel), List.mem_of_getElem? (i := 648) (by decide +kernel), List.mem_of_getElem? (i := 649) (by decide +kernel)⟩
theorem lw_p13 : lw_okq (⟨"HerdCords", "doOrderRead", "()Z"⟩, 8) := ⟨⟨by decide +kernel, by decide +kernel⟩, List.mem_of_getElem? (i := 17) (by decide +kernel), List.mem_of_getElem? (i := 652) (by decide +kernel), List.mem_of_getElem? (i := 653) (by decide +kernel)⟩
theorem lw_p14 : lw_okq (⟨"HerdCordsModel", "holds", "(I)Z"⟩, 12) := ⟨⟨by decide +kernel, by decide +kernel⟩, List.mem_of_getElem? (i := 720) (by decide +kernel), List.mem_of_getElem? (i := 779) (by decide +kernel), List.mem_of_getElem? (i := 780) (by decide +kernel)⟩
theorem lw_p15 : lw_okq (⟨"HerdCordsModel", "save", "()V"⟩, 12) := ⟨⟨by decide +kernel, by decide +kernel⟩, List.mem_of_getElem? (i := 720) (by decide +kernel), List.mem_of_getElem? (i := 783) (by decide +kernel), List.mem_of_getElem? (i := 784) (by decide +kernel)⟩
def lw_privs_1 : List (MethodName × Nat) := [(⟨"HerdCords", "readBuffer", "()I"⟩, 8), (⟨"HerdCords$OrderReader", "takesCord", "(I)Z"⟩, 5), (⟨"HerdCords$OrderReader", "takesKind", "(C)Z"⟩, 5), (⟨"HerdCords$OrderReader", "takesValue", "(I)Z"⟩, 5), (⟨"HerdCords$OrderReader", "mayBeginValue", "(I)Z"⟩, 5), (⟨"HerdCords$OrderReader", "takesBetween", "()Z"⟩, 5), (⟨"HerdCords$OrderReader", "takesDigit", "(I)Z"⟩, 5), (⟨"java/lang/Throwable", "fillInStackTrace", "(I)Ljava/lang/Throwable;"⟩, 6), (⟨"HerdCords", "mixCord", "(JI)J"⟩, 8), (⟨"HerdCords", "cordAt", "(I)LHerdCords$Cord;"⟩, 8), (⟨"HerdCords$Cord", "loopsFor", "(II)I"⟩, 6), (⟨"HerdCords$Herd", "countTied", "(LHerdCords$Cord;II)I"⟩, 7), (⟨"HerdCords", "doOrders", "()I"⟩, 8), (⟨"HerdCords", "doOrderRead", "()Z"⟩, 8), (⟨"HerdCordsModel", "holds", "(I)Z"⟩, 12), (⟨"HerdCordsModel", "save", "()V"⟩, 12)]
theorem lw_r1 : ∀ q ∈ lw_privs_1, lw_okq q := List.forall_mem_cons.mpr ⟨lw_p0, List.forall_mem_cons.mpr ⟨lw_p1, List.forall_mem_cons.mpr ⟨lw_p2, List.forall_mem_cons.mpr ⟨lw_p3, List.forall_mem_cons.mpr ⟨lw_p4, List.forall_mem_cons.mpr ⟨lw_p5, List.forall_mem_cons.mpr ⟨lw_p6, List.forall_mem_cons.mpr ⟨lw_p7, List.forall_mem_cons.mpr ⟨lw_p8, List.forall_mem_cons.mpr ⟨lw_p9, List.forall_mem_cons.mpr ⟨lw_p10, List.forall_mem_cons.mpr ⟨lw_p11, List.forall_mem_cons.mpr ⟨lw_p12, List.forall_mem_cons.mpr ⟨lw_p13, List.forall_mem_cons.mpr ⟨lw_p14, List.forall_mem_cons.mpr ⟨lw_p15, fun _ h => absurd h List.not_mem_nil⟩⟩⟩⟩⟩⟩⟩⟩⟩⟩⟩⟩⟩⟩⟩⟩
theorem lw_p16 : lw_okq (⟨"HerdCordsModel", "tiesPart", "(II)I"⟩, 12) := ⟨⟨by decide +kernel, by decide +kernel⟩, List.mem_of_getElem? (i := 720) (by decide +kernel), List.mem_of_getElem? (i := 787) (by decide +kernel), List.mem_of_getElem? (i := 788) (by decide +kernel)⟩
theorem lw_p17 : lw_okq (⟨"HerdCordsModel", "reasonFor", "(II)I"⟩, 12) := ⟨⟨by decide +kernel, by decide +kernel⟩, List.mem_of_getElem? (i := 720) (by decide +kernel), List.mem_of_getElem? (i := 791) (by decide +kernel), List.mem_of_getElem? (i := 792) (by decide +kernel)⟩
theorem lw_p18 : lw_okq (⟨"HerdCordsModel", "of", "(II)I"⟩, 12) := ⟨⟨by decide +kernel, by decide +kernel⟩, List.mem_of_getElem? (i := 720) (by decide +kernel), List.mem_of_getElem? (i := 795) (by decide +kernel), List.mem_of_getElem? (i := 796) (by decide +kernel)⟩
theorem lw_p19 : lw_okq (⟨"HerdCordsModel", "lays", "(II)I"⟩, 12) := ⟨⟨by decide +kernel, by decide +kernel⟩, List.mem_of_getElem? (i := 720) (by decide +kernel), List.mem_of_getElem? (i := 802) (by decide +kernel), List.mem_of_getElem? (i := 803) (by decide +kernel)⟩
theorem lw_p20 : lw_okq (⟨"HerdCordsModel", "told", "(I)I"⟩, 12) := ⟨⟨by decide +kernel, by decide +kernel⟩, List.mem_of_getElem? (i := 720) (by decide +kernel), List.mem_of_getElem? (i := 806) (by decide +kernel), List.mem_of_getElem? (i := 807) (by decide +kernel)⟩
theorem lw_p21 : lw_okq (⟨"HerdCordsModel", "open", "(II)I"⟩, 12) := ⟨⟨by decide +kernel, by decide +kernel⟩, List.mem_of_getElem? (i := 720) (by decide +kernel), List.mem_of_getElem? (i := 810) (by decide +kernel), List.mem_of_getElem? (i := 811) (by decide +kernel)⟩
theorem lw_p22 : lw_okq (⟨"HerdCordsModel", "knits", "(I)I"⟩, 12) := ⟨⟨by decide +kernel, by decide +kernel⟩, List.mem_of_getElem? (i := 720) (by decide +kernel), List.mem_of_getElem? (i := 814) (by decide +kernel), List.mem_of_getElem? (i := 815) (by decide +kernel)⟩
theorem lw_p23 : lw_okq (⟨"HerdCordsModel", "adds", "(II)I"⟩, 12) := ⟨⟨by decide +kernel, by decide +kernel⟩, List.mem_of_getElem? (i := 720) (by decide +kernel), List.mem_of_getElem? (i := 822) (by decide +kernel), List.mem_of_getElem? (i := 823) (by decide +kernel)⟩
theorem lw_p24 : lw_okq (⟨"HerdCordsModel", "slips", "(II)I"⟩, 12) := ⟨⟨by decide +kernel, by decide +kernel⟩, List.mem_of_getElem? (i := 720) (by decide +kernel), List.mem_of_getElem? (i := 830) (by decide +kernel), List.mem_of_getElem? (i := 831) (by decide +kernel)⟩
theorem lw_p25 : lw_okq (⟨"HerdCordsModel", "mends", "(I)I"⟩, 12) := ⟨⟨by decide +kernel, by decide +kernel⟩, List.mem_of_getElem? (i := 720) (by decide +kernel), List.mem_of_getElem? (i := 838) (by decide +kernel), List.mem_of_getElem? (i := 839) (by decide +kernel)⟩
theorem lw_p26 : lw_okq (⟨"HerdCordsModel", "lacks", "(I)I"⟩, 12) := ⟨⟨by decide +kernel, by decide +kernel⟩, List.mem_of_getElem? (i := 720) (by decide +kernel), List.mem_of_getElem? (i := 842) (by decide +kernel), List.mem_of_getElem? (i := 843) (by decide +kernel)⟩
theorem lw_p27 : lw_okq (⟨"HerdCordsModel", "partsTold", "(I)I"⟩, 12) := ⟨⟨by decide +kernel, by decide +kernel⟩, List.mem_of_getElem? (i := 720) (by decide +kernel), List.mem_of_getElem? (i := 846) (by decide +kernel), List.mem_of_getElem? (i := 847) (by decide +kernel)⟩
theorem lw_p28 : lw_okq (⟨"HerdCordsModel", "ties", "(I)I"⟩, 12) := ⟨⟨by decide +kernel, by decide +kernel⟩, List.mem_of_getElem? (i := 720) (by decide +kernel), List.mem_of_getElem? (i := 854) (by decide +kernel), List.mem_of_getElem? (i := 855) (by decide +kernel)⟩
theorem lw_p29 : lw_okq (⟨"HerdCordsModel", "puts", "(II)I"⟩, 12) := ⟨⟨by decide +kernel, by decide +kernel⟩, List.mem_of_getElem? (i := 720) (by decide +kernel), List.mem_of_getElem? (i := 862) (by decide +kernel), List.mem_of_getElem? (i := 863) (by decide +kernel)⟩
theorem lw_p30 : lw_okq (⟨"HerdCordsModel", "wrong", "()I"⟩, 12) := ⟨⟨by decide +kernel, by decide +kernel⟩, List.mem_of_getElem? (i := 720) (by decide +kernel), List.mem_of_getElem? (i := 882) (by decide +kernel), List.mem_of_getElem? (i := 883) (by decide +kernel)⟩
theorem lw_p31 : lw_okq (⟨"HerdCordsModel", "behindOrder", "(I)I"⟩, 12) := ⟨⟨by decide +kernel, by decide +kernel⟩, List.mem_of_getElem? (i := 720) (by decide +kernel), List.mem_of_getElem? (i := 886) (by decide +kernel), List.mem_of_getElem? (i := 887) (by decide +kernel)⟩
def lw_privs_2 : List (MethodName × Nat) := [(⟨"HerdCordsModel", "tiesPart", "(II)I"⟩, 12), (⟨"HerdCordsModel", "reasonFor", "(II)I"⟩, 12), (⟨"HerdCordsModel", "of", "(II)I"⟩, 12), (⟨"HerdCordsModel", "lays", "(II)I"⟩, 12), (⟨"HerdCordsModel", "told", "(I)I"⟩, 12), (⟨"HerdCordsModel", "open", "(II)I"⟩, 12), (⟨"HerdCordsModel", "knits", "(I)I"⟩, 12), (⟨"HerdCordsModel", "adds", "(II)I"⟩, 12), (⟨"HerdCordsModel", "slips", "(II)I"⟩, 12), (⟨"HerdCordsModel", "mends", "(I)I"⟩, 12), (⟨"HerdCordsModel", "lacks", "(I)I"⟩, 12), (⟨"HerdCordsModel", "partsTold", "(I)I"⟩, 12), (⟨"HerdCordsModel", "ties", "(I)I"⟩, 12), (⟨"HerdCordsModel", "puts", "(II)I"⟩, 12), (⟨"HerdCordsModel", "wrong", "()I"⟩, 12), (⟨"HerdCordsModel", "behindOrder", "(I)I"⟩, 12)]
theorem lw_r2 : ∀ q ∈ lw_privs_2, lw_okq q := List.forall_mem_cons.mpr ⟨lw_p16, List.forall_mem_cons.mpr ⟨lw_p17, List.forall_mem_cons.mpr ⟨lw_p18, List.forall_mem_cons.mpr ⟨lw_p19, List.forall_mem_cons.mpr ⟨lw_p20, List.forall_mem_cons.mpr ⟨lw_p21, List.forall_mem_cons.mpr ⟨lw_p22, List.forall_mem_cons.mpr ⟨lw_p23, List.forall_mem_cons.mpr ⟨lw_p24, List.forall_mem_cons.mpr ⟨lw_p25, List.forall_mem_cons.mpr ⟨lw_p26, List.forall_mem_cons.mpr ⟨lw_p27, List.forall_mem_cons.mpr ⟨lw_p28, List.forall_mem_cons.mpr ⟨lw_p29, List.forall_mem_cons.mpr ⟨lw_p30, List.forall_mem_cons.mpr ⟨lw_p31, fun _ h => absurd h List.not_mem_nil⟩⟩⟩⟩⟩⟩⟩⟩⟩⟩⟩⟩⟩⟩⟩⟩
theorem lw_p32 : lw_okq (⟨"HerdCordsModel", "digitAt", "(I)I"⟩, 12) := ⟨⟨by decide +kernel, by decide +kernel⟩, List.mem_of_getElem? (i := 720) (by decide +kernel), List.mem_of_getElem? (i := 890) (by decide +kernel), List.mem_of_getElem? (i := 891) (by decide +kernel)⟩
theorem lw_p33 : lw_okq (⟨"HerdCordsModel", "charAt", "(I)I"⟩, 12) := ⟨⟨by decide +kernel, by decide +kernel⟩, List.mem_of_getElem? (i := 720) (by decide +kernel), List.mem_of_getElem? (i := 894) (by decide +kernel), List.mem_of_getElem? (i := 895) (by decide +kernel)⟩
theorem lw_p34 : lw_okq (⟨"HerdCordsModel", "behindNumber", "(I)I"⟩, 12) := ⟨⟨by decide +kernel, by decide +kernel⟩, List.mem_of_getElem? (i := 720) (by decide +kernel), List.mem_of_getElem? (i := 898) (by decide +kernel), List.mem_of_getElem? (i := 899) (by decide +kernel)⟩
theorem lw_p35 : lw_okq (⟨"HerdCordsModel", "does", "(II)Z"⟩, 12) := ⟨⟨by decide +kernel, by decide +kernel⟩, List.mem_of_getElem? (i := 720) (by decide +kernel), List.mem_of_getElem? (i := 906) (by decide +kernel), List.mem_of_getElem? (i := 907) (by decide +kernel)⟩
theorem lw_p36 : lw_okq (⟨"HerdCordsModel", "allTies", "()I"⟩, 12) := ⟨⟨by decide +kernel, by decide +kernel⟩, List.mem_of_getElem? (i := 720) (by decide +kernel), List.mem_of_getElem? (i := 914) (by decide +kernel), List.mem_of_getElem? (i := 915) (by decide +kernel)⟩
theorem lw_p37 : lw_okq (⟨"HerdCordsModel", "number", "(II)I"⟩, 12) := ⟨⟨by decide +kernel, by decide +kernel⟩, List.mem_of_getElem? (i := 720) (by decide +kernel), List.mem_of_getElem? (i := 930) (by decide +kernel), List.mem_of_getElem? (i := 931) (by decide +kernel)⟩
theorem lw_p38 : lw_okq (⟨"HerdCordsModel", "loopsOf", "(I)I"⟩, 12) := ⟨⟨by decide +kernel, by decide +kernel⟩, List.mem_of_getElem? (i := 720) (by decide +kernel), List.mem_of_getElem? (i := 934) (by decide +kernel), List.mem_of_getElem? (i := 935) (by decide +kernel)⟩
theorem lw_p39 : lw_okq (⟨"HerdCordsModel", "atPlace", "(III)I"⟩, 12) := ⟨⟨by decide +kernel, by decide +kernel⟩, List.mem_of_getElem? (i := 720) (by decide +kernel), List.mem_of_getElem? (i := 942) (by decide +kernel), List.mem_of_getElem? (i := 943) (by decide +kernel)⟩
theorem lw_p40 : lw_okq (⟨"HerdCordsModel", "counted", "(I)I"⟩, 12) := ⟨⟨by decide +kernel, by decide +kernel⟩, List.mem_of_getElem? (i := 720) (by decide +kernel), List.mem_of_getElem? (i := 954) (by decide +kernel), List.mem_of_getElem? (i := 955) (by decide +kernel)⟩
theorem lw_p41 : lw_okq (⟨"HerdCordsModel", "sumOf", "(I)I"⟩, 12) := ⟨⟨by decide +kernel, by decide +kernel⟩, List.mem_of_getElem? (i := 720) (by decide +kernel), List.mem_of_getElem? (i := 958) (by decide +kernel), List.mem_of_getElem? (i := 959) (by decide +kernel)⟩
theorem lw_p42 : lw_okq (⟨"HerdCordsModel", "ofHue", "(I)I"⟩, 12) := ⟨⟨by decide +kernel, by decide +kernel⟩, List.mem_of_getElem? (i := 720) (by decide +kernel), List.mem_of_getElem? (i := 966) (by decide +kernel), List.mem_of_getElem? (i := 967) (by decide +kernel)⟩
theorem lw_p43 : lw_okq (⟨"HerdCordsModel", "times", "(II)I"⟩, 12) := ⟨⟨by decide +kernel, by decide +kernel⟩, List.mem_of_getElem? (i := 720) (by decide +kernel), List.mem_of_getElem? (i := 978) (by decide +kernel), List.mem_of_getElem? (i := 979) (by decide +kernel)⟩
theorem lw_p44 : lw_okq (⟨"HerdCordsModel", "putAside", "()V"⟩, 12) := ⟨⟨by decide +kernel, by decide +kernel⟩, List.mem_of_getElem? (i := 720) (by decide +kernel), List.mem_of_getElem? (i := 982) (by decide +kernel), List.mem_of_getElem? (i := 983) (by decide +kernel)⟩
theorem lw_p45 : lw_okq (⟨"HerdCordsModel", "putBack", "()V"⟩, 12) := ⟨⟨by decide +kernel, by decide +kernel⟩, List.mem_of_getElem? (i := 720) (by decide +kernel), List.mem_of_getElem? (i := 986) (by decide +kernel), List.mem_of_getElem? (i := 987) (by decide +kernel)⟩
theorem lw_p46 : lw_okq (⟨"HerdCordsModel", "setFor", "(I)I"⟩, 12) := ⟨⟨by decide +kernel, by decide +kernel⟩, List.mem_of_getElem? (i := 720) (by decide +kernel), List.mem_of_getElem? (i := 995) (by decide +kernel), List.mem_of_getElem? (i := 996) (by decide +kernel)⟩
theorem lw_p47 : lw_okq (⟨"HerdCordsModel", "toldBy", "(I)I"⟩, 12) := ⟨⟨by decide +kernel, by decide +kernel⟩, List.mem_of_getElem? (i := 720) (by decide +kernel), List.mem_of_getElem? (i := 999) (by decide +kernel), List.mem_of_getElem? (i := 1000) (by decide +kernel)⟩
def lw_privs_3 : List (MethodName × Nat) := [(⟨"HerdCordsModel", "digitAt", "(I)I"⟩, 12), (⟨"HerdCordsModel", "charAt", "(I)I"⟩, 12), (⟨"HerdCordsModel", "behindNumber", "(I)I"⟩, 12), (⟨"HerdCordsModel", "does", "(II)Z"⟩, 12), (⟨"HerdCordsModel", "allTies", "()I"⟩, 12), (⟨"HerdCordsModel", "number", "(II)I"⟩, 12), (⟨"HerdCordsModel", "loopsOf", "(I)I"⟩, 12), (⟨"HerdCordsModel", "atPlace", "(III)I"⟩, 12), (⟨"HerdCordsModel", "counted", "(I)I"⟩, 12), (⟨"HerdCordsModel", "sumOf", "(I)I"⟩, 12), (⟨"HerdCordsModel", "ofHue", "(I)I"⟩, 12), (⟨"HerdCordsModel", "times", "(II)I"⟩, 12), (⟨"HerdCordsModel", "putAside", "()V"⟩, 12), (⟨"HerdCordsModel", "putBack", "()V"⟩, 12), (⟨"HerdCordsModel", "setFor", "(I)I"⟩, 12), (⟨"HerdCordsModel", "toldBy", "(I)I"⟩, 12)]
theorem lw_r3 : ∀ q ∈ lw_privs_3, lw_okq q := List.forall_mem_cons.mpr ⟨lw_p32, List.forall_mem_cons.mpr ⟨lw_p33, List.forall_mem_cons.mpr ⟨lw_p34, List.forall_mem_cons.mpr ⟨lw_p35, List.forall_mem_cons.mpr ⟨lw_p36, List.forall_mem_cons.mpr ⟨lw_p37, List.forall_mem_cons.mpr ⟨lw_p38, List.forall_mem_cons.mpr ⟨lw_p39, List.forall_mem_cons.mpr ⟨lw_p40, List.forall_mem_cons.mpr ⟨lw_p41, List.forall_mem_cons.mpr ⟨lw_p42, List.forall_mem_cons.mpr ⟨lw_p43, List.forall_mem_cons.mpr ⟨lw_p44, List.forall_mem_cons.mpr ⟨lw_p45, List.forall_mem_cons.mpr ⟨lw_p46, List.forall_mem_cons.mpr ⟨lw_p47, fun _ h => absurd h List.not_mem_nil⟩⟩⟩⟩⟩⟩⟩⟩⟩⟩⟩⟩⟩⟩⟩⟩
theorem lw_p48 : lw_okq (⟨"HerdCordsModel", "fullestOne", "()I"⟩, 12) := ⟨⟨by decide +kernel, by decide +kernel⟩, List.mem_of_getElem? (i := 720) (by decide +kernel), List.mem_of_getElem? (i := 1010) (by decide +kernel), List.mem_of_getElem? (i := 1011) (by decide +kernel)⟩
theorem lw_p49 : lw_okq (⟨"HerdCordsModel", "share", "()D"⟩, 12) := ⟨⟨by decide +kernel, by decide +kernel⟩, List.mem_of_getElem? (i := 720) (by decide +kernel), List.mem_of_getElem? (i := 1018) (by decide +kernel), List.mem_of_getElem? (i := 1019) (by decide +kernel)⟩
theorem lw_p50 : lw_okq (⟨"HerdCordsModel", "digestOne", "(J)V"⟩, 12) := ⟨⟨by decide +kernel, by decide +kernel⟩, List.mem_of_getElem? (i := 720) (by decide +kernel), List.mem_of_getElem? (i := 1027) (by decide +kernel), List.mem_of_getElem? (i := 1028) (by decide +kernel)⟩
theorem lw_p51 : lw_okq (⟨"HerdCordsModel", "digestCord", "(I)V"⟩, 12) := ⟨⟨by decide +kernel, by decide +kernel⟩, List.mem_of_getElem? (i := 720) (by decide +kernel), List.mem_of_getElem? (i := 1032) (by decide +kernel), List.mem_of_getElem? (i := 1033) (by decide +kernel)⟩
def lw_privs_4 : List (MethodName × Nat) := [(⟨"HerdCordsModel", "fullestOne", "()I"⟩, 12), (⟨"HerdCordsModel", "share", "()D"⟩, 12), (⟨"HerdCordsModel", "digestOne", "(J)V"⟩, 12), (⟨"HerdCordsModel", "digestCord", "(I)V"⟩, 12)]
theorem lw_r4 : ∀ q ∈ lw_privs_4, lw_okq q := List.forall_mem_cons.mpr ⟨lw_p48, List.forall_mem_cons.mpr ⟨lw_p49, List.forall_mem_cons.mpr ⟨lw_p50, List.forall_mem_cons.mpr ⟨lw_p51, fun _ h => absurd h List.not_mem_nil⟩⟩⟩⟩
def lw_privs : List (MethodName × Nat) := lw_privs_1 ++ (lw_privs_2 ++ (lw_privs_3 ++ (lw_privs_4)))
def lw_tbl : List Cond := k2_sels lw_privs ++ tables_1
theorem lw_privs_ok : ∀ q ∈ lw_privs, lw_okq q := by
  show ∀ q ∈ lw_privs_1 ++ (lw_privs_2 ++ (lw_privs_3 ++ (lw_privs_4))), lw_okq q
  exact List.forall_mem_append.mpr ⟨lw_r1, List.forall_mem_append.mpr ⟨lw_r2, List.forall_mem_append.mpr ⟨lw_r3, lw_r4⟩⟩⟩
/-- the streams that the claim lets the run draw from -/
abbrev lw_cs : List Choice := [Jvm.Choice.named "NaN.bits"]
theorem lw_bits : nanBits ∈ lw_cs := by first | decide | exact List.mem_cons_self | simp [lw_cs, nanBits]

/-! ===== BEGIN words of one list among another's, by their places ===== -/
theorem goodIn_r {big : List Cond} (ws : List Cond) (ps : List Nat) (hp : ws = ps.filterMap (fun i => big[i]?)) (h : ws.all goodWord = true) : GoodIn big ws := by
  intro w hw
  have h1 := List.all_eq_true.mp h w hw
  rw [hp] at hw
  obtain ⟨i, -, hi⟩ := List.mem_filterMap.mp hw
  have hm : w ∈ big := by first | exact List.mem_of_getElem? hi | exact List.getElem?_mem hi
  exact ⟨hm, good_of_word h1⟩
theorem goodIn_app {big a b : List Cond} (ha : GoodIn big a) (hb : GoodIn big b) : GoodIn big (a ++ b) := fun w h => (List.mem_append.mp h).elim (ha w) (hb w)
theorem goodIn_ca {big a b : List Cond} {c : Cond} (ha : GoodIn big (c :: a)) (hb : GoodIn big b) : GoodIn big (c :: (a ++ b)) := fun w h => (List.mem_cons.mp h).elim (fun e => ha w (List.mem_cons.mpr (Or.inl e))) (fun h => (List.mem_append.mp h).elim (fun h => ha w (List.mem_cons.mpr (Or.inr h))) (hb w))
theorem goodIn_sub {big ws : List Cond} (hm : ∀ w ∈ ws, w ∈ big) (h : ws.all goodWord = true) : GoodIn big ws := fun w hw => ⟨hm w hw, good_of_word (List.all_eq_true.mp h w hw)⟩
/-! ===== END ===== -/

/-! ===== BEGIN exceptions that leave a method, and their catching by the caller (launches without stack traces) ===== -/
section VXA
/-! The laws vx_back, vx_callV, vx_callS, vx_callSW, vx_throw0, vx_throwS follow proofs of the library, with one case more: JvmDerived/Free/Laws.lean (Back.of_free), Shelf42/LK1.lean (callV, callS), Shelf/KitTraced.lean (throwNew0V, throwNewS). -/
/-- where a method has thrown q: the class by its name, the cell, what was written, the world -/
def vx_T (XC : String → State → State → Prop) (st : State) (q : Addr) (t : State) (mc ms : Nat) (free : Addr → Prop) : Prop :=
  ∃ (E : String) (ce : Cell) (L : List Loc), XC E st t ∧ t.heap[q]? = some ce ∧ ce.vm = .none ∧ st.vm.findClass E = some ce.cls ∧ st.WarmedH t.vm ∧ st.sameButNew ({ t with vm := st.vm } : State) L mc ms ∧ ∀ z ∈ L, free z.base
def vx_Q (Qc : Array Value → State → Outcome → State → Prop) (XC : String → State → State → Prop) (mc ms : Nat) (free : Addr → Prop) : Array Value → State → Outcome → State → Prop := fun a st o t =>
  (Qc a st o t ∧ ∃ L, FrameEnd st o t L mc ms ∧ ∀ q ∈ L, free q.base) ∨ ∃ q, o = .threw q ∧ vx_T XC st q t mc ms free
/-- a callee that returns or throws -/
def vx_Met (l : Launch) (y : MethodName) (ws : List Cond) (rm : Room) (Pc : Array Value → State → Prop) (Qc : Array Value → State → Outcome → State → Prop) (XC : String → State → State → Prop) (mc ms : Nat) (free : Addr → Prop) : Prop :=
  MetFree l y (headSpec ws rm) Pc (fun _ _ _ _ _ => True) (vx_Q Qc XC mc ms free)
def vx_Post (XC : String → State → State → Prop) (mc ms : Nat) (free : Addr → Prop) : Pt → Array Value → Addr → Pt → Prop := fun A a q B =>
  ∃ (g : JFrame) (mk : MethodId) (t : State) (L : List Loc) (E : String) (ce : Cell), B.U.heap = t.heap ∧ B.U.vm = t.vm ∧ XC E (A.U.calling g mk a) t ∧ t.heap[q]? = some ce ∧ ce.vm = .none ∧ A.U.vm.findClass E = some ce.cls ∧ B.locs = A.locs ++ L ∧ (∀ z ∈ L, free z.base) ∧ B.cells = A.cells + mc ∧ B.slots = A.slots + ms
def vx_Back (l : Launch) (R : Room) (p : Program) (e : Env) (below : List Frame) (s : State) (sargs : Array Value) (y : MethodName) (len W9 : Nat)
    (Pre : Pt → Array Value → Prop) (Post : Pt → Array Value → Option Value → Pt → Prop) (PostX : Pt → Array Value → Addr → Pt → Prop) : Prop :=
  ∀ (m : MethodId) (meth : Method) (c : Code) (A : Pt) (g : JFrame) (ig : Instr) (mk : MethodId) (a : Array Value),
    Stand p l e R s m sargs below meth c A.U A.locs A.cells A.slots → g.method = m → g.locals.size = c.maxLocals → decode c.code g.pc = .ok (ig, len) →
    2 * g.monitorRoom + (g.stack.map fun v => v.category).sum ≤ W9 → A.U.methodNamed? y = some mk → Pre A a →
    (∃ (v : Option Value) (B : Pt), Stand p l e R s m sargs below meth c B.U B.locs B.cells B.slots ∧ Post A a v B ∧
      Steps p.tables e below (doInvoke e (A.U.setTop g) [] mk a).1 (B.U.setTop { g with pc := g.pc + len, stack := v.toList ++ g.stack })) ∨
    (∃ (q : Addr) (B : Pt), Stand p l e R s m sargs below meth c B.U B.locs B.cells B.slots ∧ PostX A a q B ∧
      Steps p.tables e below (doInvoke e (A.U.setTop g) [] mk a).1 ((B.U.setTop g).pushFrame (.throwing q)))
section Payer
variable {l : Launch} {R : Room} {p : Program} {e : Env} {below : List Frame} {s : State} {sargs : Array Value} {y : MethodName} {len W9 : Nat}
theorem vx_back {ws : List Cond} {rm : Room} {Pc : Array Value → State → Prop} {Qc : Array Value → State → Outcome → State → Prop} {XC : String → State → State → Prop} {mc ms : Nat} {free : Addr → Prop} {bytes : ByteArray} {maxL : Nat} {ret : Option FieldType}
    (hM : vx_Met l y ws rm Pc Qc XC mc ms free) (hblind : FrameBlind Pc) (hrc : rm.cells = mc) (hrs : rm.slots = ms)
    (hframes : rm.frames + 1 ≤ R.frames) (hlocals : W9 + (maxL + 11) + rm.locals ≤ R.locals)
    (hws : ∀ w ∈ ws, ∀ a' U, s.WarmedH U.vm → w.before a' U = true) (hcode : Cond.code y bytes maxL ret ∈ ws) (hinit : ∀ a' U, s.WarmedH U.vm → (Cond.initialized y.cls).before a' U = true) :
    vx_Back l R p e below s sargs y len W9 (PreOf R mc ms Pc) (PostOf Qc mc ms free) (vx_Post XC mc ms free) := by
  intro m meth c A g ig mk a X hg hsize hdg hW hn hp
  have h1 : (headSpec ws rm).pre.before a A.U = true := atoms_intro fun w hw => hws w hw _ _ X.warmed
  have h2 : (Cond.code y bytes maxL ret).before a A.U = true := hws _ hcode _ _ X.warmed
  have h3 : (Cond.initialized y.cls).before a A.U = true := hinit _ _ X.warmed
  have h4 : A.cells + (headSpec ws rm).room.cells ≤ R.cells := by rw [show (headSpec ws rm).room.cells = mc from hrc]; exact hp.1
  have h5 : A.slots + (headSpec ws rm).room.slots ≤ R.slots := by rw [show (headSpec ws rm).room.slots = ms from hrs]; exact hp.2.1
  have hPc : Pc a (A.U.calling g mk a) := hblind _ _ _ _ hp.2.2
  obtain ⟨U, Ls, c0, s0⟩ := A
  dsimp only [Pt.U, Pt.locs, Pt.cells, Pt.slots] at h1 h2 h3 h4 h5 X hn hPc ⊢
  obtain ⟨methY, cY, hmY, hcY, -, hlY, -, -, -, -⟩ := Cond.code_spec hn h2
  obtain ⟨kY, hkY, -⟩ := className_of_methodNamed hn
  have hinitY : kY.init = .initialized := Cond.initialized_spec (findClass_of_methodNamed hn) hkY h3
  have h : At U g.method c below := by rw [hg]; exact X.here
  have hlocals9 : W9 + (maxL + 11) + (headSpec ws rm).room.locals ≤ R.locals := hlocals
  have happ : (headSpec ws rm).appliesLoose y e.platform (U.calling g mk a) = true :=
    Spec.appliesLoose_calling (g := g) h hdg hn hkY hinitY
      (X.room_calling (g := g) (R' := (headSpec ws rm).room) hsize hmY hcY hframes (by rw [hlY]; omega) h4 h5) h1
  obtain ⟨mid, hmid⟩ := h.above
  have hfr : (U.setTop g).frames = (.java g :: mid) ++ below := by rw [State.frames_setTop' g h.top, hmid]; rfl
  obtain ⟨o, s₂, hsteps, -, hend, hq⟩ := Steps.callFree hM p X.admits X.cas X.clock (acts := []) hfr happ hPc trivial
  have hq' : vx_Q Qc XC mc ms free a (U.calling g mk a) o s₂ := hq
  rw [State.frames_setTop' g h.top] at hend
  obtain ⟨g₀, hg0⟩ := Option.isSome_iff_exists.mp h.top
  obtain ⟨r, hr⟩ := State.topJava?_eq_some.mp hg0
  have hr' : (({ U with heap := s₂.heap, slotsUsed := s₂.slotsUsed } : State).setVm s₂.vm).frames = .java g₀ :: r := hr
  rcases hq' with ⟨hqc, L, hfe, hL⟩ | ⟨q, rfl, E, ce, L, hx, hce, hcv, hcl, hW₂, hsm, hL⟩
  · obtain ⟨⟨v, rfl⟩, hW₂, e2, q2, q3, q4, q5, q6⟩ := id hfe
    have e3 : s₂ = ({ (U.calling g mk a).setFrames s₂.frames with heap := s₂.heap, slotsUsed := s₂.slotsUsed } : State).setVm s₂.vm := by
      have : s₂ = ({ s₂ with vm := (U.calling g mk a).vm } : State).setVm s₂.vm := rfl
      rw [e2] at this
      exact this
    obtain ⟨c₂, i₂, len₂, hc₂, hd₂, hf₂⟩ := hend
    have hW' : U.WarmedH s₂.vm := hW₂
    have hcc : c₂ = c := by
      have h1 : s₂.code? g.method = U.code? g.method := by
        rw [State.code?_eq, State.code?_eq, hW'.alike.method?]
      exact Option.some.inj (hc₂.symm.trans (h1.trans h.code))
    subst hcc
    have hlen : len₂ = len := by rw [hdg] at hd₂; cases hd₂; rfl
    subst hlen
    have hs₂ : s₂ = (({ U with heap := s₂.heap, slotsUsed := s₂.slotsUsed } : State).setVm s₂.vm).setTop { g with pc := g.pc + len₂, stack := v.toList ++ g.stack } := by
      refine e3.trans ?_
      rw [hf₂, State.calling_eq h.top, State.setFrames_setFrames, State.setTop_of_frames _ hr', hr]
      rfl
    have hsame : U.sameButNew ({ U with heap := s₂.heap, slotsUsed := s₂.slotsUsed } : State) L mc ms := by
      refine ⟨?_, q2, q3, q4, q5, q6⟩
      obtain ⟨t, ht, -⟩ := State.frames_cons hr
      show ({ U with heap := s₂.heap, slotsUsed := s₂.slotsUsed } : State) = { U.setFrames U.frames with heap := s₂.heap, slotsUsed := s₂.slotsUsed }
      rw [State.setFrames_self ht]
    subst hg
    refine Or.inl ⟨v, ⟨(({ U with heap := s₂.heap, slotsUsed := s₂.slotsUsed } : State).setVm s₂.vm), Ls ++ L, c0 + mc, s0 + ms⟩,
      ⟨X.admits, X.cas, X.clock, X.frames, X.room, X.hears, X.method, X.code, (X.here.setHeapUsed s₂.heap s₂.slotsUsed).setVm hW'.alike, X.tail, State.WarmedH.trans X.warmed hW', X.limits, X.bytes, X.same.trans (hsame.setVm s.vm)⟩,
      ⟨g, mk, s₂, L, rfl, rfl, hqc, rfl, hL, rfl, rfl⟩, ?_⟩
    show Steps p.tables e below _ ((({ U with heap := s₂.heap, slotsUsed := s₂.slotsUsed } : State).setVm s₂.vm).setTop { g with pc := g.pc + len₂, stack := v.toList ++ g.stack })
    rw [← hs₂]
    exact hsteps
  · obtain ⟨e2, q2, q3, q4, q5, q6⟩ := id hsm
    have e3 : s₂ = ({ (U.calling g mk a).setFrames s₂.frames with heap := s₂.heap, slotsUsed := s₂.slotsUsed } : State).setVm s₂.vm := by
      have : s₂ = ({ s₂ with vm := (U.calling g mk a).vm } : State).setVm s₂.vm := rfl
      rw [e2] at this
      exact this
    have hf₂ : s₂.frames = .throwing q :: .java g :: U.frames.tail := hend
    have hW' : U.WarmedH s₂.vm := hW₂
    have hs₂ : s₂ = ((({ U with heap := s₂.heap, slotsUsed := s₂.slotsUsed } : State).setVm s₂.vm).setTop g).pushFrame (.throwing q) := by
      refine e3.trans ?_
      rw [hf₂, State.calling_eq h.top, State.setFrames_setFrames, State.pushFrame, State.frames_setTop _ hr', State.setTop_of_frames _ hr', State.setFrames_setFrames, hr]
      rfl
    have hsame : U.sameButNew ({ U with heap := s₂.heap, slotsUsed := s₂.slotsUsed } : State) L mc ms := by
      refine ⟨?_, q2, q3, q4, q5, q6⟩
      obtain ⟨t, ht, -⟩ := State.frames_cons hr
      show ({ U with heap := s₂.heap, slotsUsed := s₂.slotsUsed } : State) = { U.setFrames U.frames with heap := s₂.heap, slotsUsed := s₂.slotsUsed }
      rw [State.setFrames_self ht]
    subst hg
    refine Or.inr ⟨q, ⟨(({ U with heap := s₂.heap, slotsUsed := s₂.slotsUsed } : State).setVm s₂.vm), Ls ++ L, c0 + mc, s0 + ms⟩,
      ⟨X.admits, X.cas, X.clock, X.frames, X.room, X.hears, X.method, X.code, (X.here.setHeapUsed s₂.heap s₂.slotsUsed).setVm hW'.alike, X.tail, State.WarmedH.trans X.warmed hW', X.limits, X.bytes, X.same.trans (hsame.setVm s.vm)⟩,
      ⟨g, mk, s₂, L, E, ce, rfl, rfl, hx, hce, hcv, hcl, rfl, hL, rfl, rfl⟩, ?_⟩
    show Steps p.tables e below _ (((({ U with heap := s₂.heap, slotsUsed := s₂.slotsUsed } : State).setVm s₂.vm).setTop g).pushFrame (.throwing q))
    rw [← hs₂]
    exact hsteps
end Payer
section Calls
variable {p : Program} {l : Launch} {e : Env} {R : Room} {s : State} {m : MethodId} {args : Array Value} {below : List Frame} {meth : Method} {c : Code} {T : State} {locs : List Loc} {cells slots : Nat}
theorem vx_callV (X : Stand p l e R s m args below meth c T locs cells slots) (hexec : p.tables.exec = Jvm.exec) {own C : String} {index : Nat} {y : MethodName} {bytes : ByteArray} {maxL : Nat} {ret : Option FieldType}
    (hown : s.vm.findClass own = some m.cls) (hlink : (Cond.methodLink own index y).before args s = true) (hinst : (Cond.instanceMethod y).before args s = true) (hsel : (Cond.selects C y y).before args s = true)
    (hcode : (Cond.code y bytes maxL ret).before args s = true) (hy : y.cls ≠ "java/lang/invoke/MethodHandle" ∧ y.cls ≠ "java/lang/invoke/VarHandle")
    {W9 : Nat} {Pre : Pt → Array Value → Prop} {Post : Pt → Array Value → Option Value → Pt → Prop} {PostX : Pt → Array Value → Addr → Pt → Prop} (hK : vx_Back l R p e below s args y 3 W9 Pre Post PostX)
    {b : Addr} {cellB : Cell} (hcell : T.heap[b]? = some cellB) (hobj : cellB.vm.isStatics = false) (hcls : s.vm.findClass C = some cellB.cls)
    {g : JFrame} (hg : g.method = m) (hsize : g.locals.size = c.maxLocals) {argsL rest : List Value} (hlen : ∀ sig, parseMethodDescriptor y.desc = some sig → argsL.length = sig.parameters.length)
    (hstack : g.stack = argsL.reverse ++ .ref b :: rest) (hW : 2 * g.monitorRoom + (rest.map fun v => v.category).sum ≤ W9) (hdg : decode c.code g.pc = .ok (.invokevirtual index, 3))
    (hpre : ∀ vm₁, s.WarmedH vm₁ → Pre ⟨T.setVm vm₁, locs, cells, slots⟩ (Value.ref b :: argsL).toArray) :
    (∃ (v : Option Value) (vm₁ : Vm) (B : Pt), s.WarmedH vm₁ ∧ Stand p l e R s m args below meth c B.U B.locs B.cells B.slots ∧ Post ⟨T.setVm vm₁, locs, cells, slots⟩ (Value.ref b :: argsL).toArray v B ∧
      ∀ target, Steps p.tables e below (B.U.setTop { g with pc := g.pc + 3, stack := v.toList ++ rest }) target → Steps p.tables e below (T.setTop g) target) ∨
    (∃ (q : Addr) (vm₁ : Vm) (B : Pt), s.WarmedH vm₁ ∧ Stand p l e R s m args below meth c B.U B.locs B.cells B.slots ∧ PostX ⟨T.setVm vm₁, locs, cells, slots⟩ (Value.ref b :: argsL).toArray q B ∧
      Steps p.tables e below (T.setTop g) ((B.U.setTop { g with stack := rest }).pushFrame (.throwing q))) := by
  obtain ⟨mk, methM, hnamed, hmethM, hstM, habM⟩ := Cond.instanceMethod_spec hinst
  obtain ⟨methM', cM, hmethM', -, -, -, -, -, -, hsigM⟩ := Cond.code_spec hnamed hcode
  cases hmethM.symm.trans hmethM'
  obtain ⟨c2, r2, m2, q1, q2, q3, q4, kP, hkP, hkPi⟩ := Cond.selects_spec hsel
  cases hcls.symm.trans q1
  cases (State.methodFound?_of_named hnamed hy).symm.trans q2
  cases hnamed.symm.trans q3
  have hselP : selectMethod e.platform s.vm cellB.cls mk = .method mk := by rw [Launch.admits_selectMethod X.admits]; exact q4
  obtain ⟨vm₁, X₁, hstep₁⟩ := X.invokevirtual hexec hown hlink hnamed hmethM hstM hkP hkPi hy (a := b) (cell := cellB) hcell
    (fun z h => by rw [h] at hobj; cases hobj) hselP hmethM habM hkP hkPi (g := g) hg (argsL := argsL) (rest := rest) (hlen _ hsigM) hstack hdg
  rcases hK m meth c ⟨T.setVm vm₁, locs, cells, slots⟩ { g with stack := rest } (.invokevirtual index) mk (Value.ref b :: argsL).toArray X₁ hg hsize hdg hW (X₁.named hnamed) (hpre vm₁ X₁.warmed) with ⟨v, B, X', hpost, hsteps⟩ | ⟨q, B, X', hpost, hsteps⟩
  · exact Or.inl ⟨v, vm₁, B, X₁.warmed, X', hpost, fun target h => hstep₁ _ fun acts => by rw [doInvoke_state]; exact hsteps.trans h⟩
  · exact Or.inr ⟨q, vm₁, B, X₁.warmed, X', hpost, hstep₁ _ fun acts => by rw [doInvoke_state]; exact hsteps⟩
theorem vx_callS (X : Stand p l e R s m args below meth c T locs cells slots) (hexec : p.tables.exec = Jvm.exec) {own : String} {index : Nat} {y : MethodName} {bytes : ByteArray} {maxL : Nat} {ret : Option FieldType}
    (hown : s.vm.findClass own = some m.cls) (hlink : (Cond.methodLink own index y).before args s = true) (hstat : (Cond.static y).before args s = true) (hinit : (Cond.initialized y.cls).before args s = true)
    (hcode : (Cond.code y bytes maxL ret).before args s = true) (hy : y.cls ≠ "java/lang/invoke/MethodHandle" ∧ y.cls ≠ "java/lang/invoke/VarHandle")
    {W9 : Nat} {Pre : Pt → Array Value → Prop} {Post : Pt → Array Value → Option Value → Pt → Prop} {PostX : Pt → Array Value → Addr → Pt → Prop} (hK : vx_Back l R p e below s args y 3 W9 Pre Post PostX)
    {g : JFrame} (hg : g.method = m) (hsize : g.locals.size = c.maxLocals) {argsL rest : List Value} (hlen : ∀ sig, parseMethodDescriptor y.desc = some sig → argsL.length = sig.parameters.length)
    (hstack : g.stack = argsL.reverse ++ rest) (hW : 2 * g.monitorRoom + (rest.map fun v => v.category).sum ≤ W9) (hdg : decode c.code g.pc = .ok (.invokestatic index, 3))
    (hpre : ∀ vm₁, s.WarmedH vm₁ → Pre ⟨T.setVm vm₁, locs, cells, slots⟩ argsL.toArray) :
    (∃ (v : Option Value) (vm₁ : Vm) (B : Pt), s.WarmedH vm₁ ∧ Stand p l e R s m args below meth c B.U B.locs B.cells B.slots ∧ Post ⟨T.setVm vm₁, locs, cells, slots⟩ argsL.toArray v B ∧
      ∀ target, Steps p.tables e below (B.U.setTop { g with pc := g.pc + 3, stack := v.toList ++ rest }) target → Steps p.tables e below (T.setTop g) target) ∨
    (∃ (q : Addr) (vm₁ : Vm) (B : Pt), s.WarmedH vm₁ ∧ Stand p l e R s m args below meth c B.U B.locs B.cells B.slots ∧ PostX ⟨T.setVm vm₁, locs, cells, slots⟩ argsL.toArray q B ∧
      Steps p.tables e below (T.setTop g) ((B.U.setTop { g with stack := rest }).pushFrame (.throwing q))) := by
  obtain ⟨mk, hnamed⟩ := Cond.code_named hcode
  obtain ⟨methM, cM, hmethM, -, -, -, -, -, -, hsigM⟩ := Cond.code_spec hnamed hcode
  have hstatic : methM.isStatic = true := Cond.static_spec hnamed hmethM hstat
  obtain ⟨kP, hkP, -⟩ := className_of_methodNamed hnamed
  have hinitP : kP.init = .initialized := Cond.initialized_spec (findClass_of_methodNamed hnamed) hkP hinit
  obtain ⟨vm₁, X₁, hstep₁⟩ := X.invokestatic hexec hown hlink hnamed hmethM hstatic hkP hinitP hy (g := g) hg (argsL := argsL) (rest := rest) (hlen _ hsigM) hstack hdg
  rcases hK m meth c ⟨T.setVm vm₁, locs, cells, slots⟩ { g with stack := rest } (.invokestatic index) mk argsL.toArray X₁ hg hsize hdg hW (X₁.named hnamed) (hpre vm₁ X₁.warmed) with ⟨v, B, X', hpost, hsteps⟩ | ⟨q, B, X', hpost, hsteps⟩
  · exact Or.inl ⟨v, vm₁, B, X₁.warmed, X', hpost, fun target h => hstep₁ _ fun acts => by rw [doInvoke_state]; exact hsteps.trans h⟩
  · exact Or.inr ⟨q, vm₁, B, X₁.warmed, X', hpost, hstep₁ _ fun acts => by rw [doInvoke_state]; exact hsteps⟩
end Calls
theorem vx_cls {s : State} {T : State} {vm₁ : Vm} {E : String} {k : ClassId} (hW : s.WarmedH vm₁) (h : (T.setVm vm₁).vm.findClass E = some k) : s.vm.findClass E = some k := by
  have h1 : vm₁.findClass E = some k := h
  rw [hW.alike.findClass] at h1
  exact h1
/-- the method's frame g, with q thrown over it -/
def vx_W (p : Program) (l : Launch) (e : Env) (R : Room) (s : State) (m : MethodId) (args : Array Value) (below : List Frame) (meth : Method) (c : Code) (H : Heap) (locs : List Loc) (cells slots : Nat) (Q : State → Prop) (g : JFrame) (q : Addr) : Prop :=
  ∀ T : State, T.heap = H → Stand p l e R s m args below meth c T locs cells slots → ∃ t, Steps p.tables e below ((T.setTop g).pushFrame (.throwing q)) t ∧ Q t
def vx_Run (p : Program) (l : Launch) (e : Env) (R : Room) (s : State) (m : MethodId) (args : Array Value) (below : List Frame) (meth : Method) (c : Code) (H : Heap) (locs : List Loc) (cells slots mc ms : Nat) (g : JFrame) (rest : List Value) (Qa : State → Outcome → State → Prop) (XC : String → State → State → Prop) (free : Addr → Prop) : Prop :=
  ∀ T : State, T.heap = H → Stand p l e R s m args below meth c T locs cells slots →
    (∃ (v : Option Value) (st₀ t T' : State) (L : List Loc), st₀.heap = H ∧ Stand p l e R s m args below meth c T' (locs ++ L) (cells + mc) (slots + ms) ∧ (∀ q ∈ L, free q.base) ∧ T'.heap = t.heap ∧ T'.vm = t.vm ∧ Qa st₀ (.returned v) t ∧
      Goes p e below T g T' { g with pc := g.pc + 3, stack := v.toList ++ rest }) ∨
    (∃ (q : Addr) (st₀ t T' : State) (L : List Loc) (E : String) (ce : Cell), st₀.heap = H ∧ Stand p l e R s m args below meth c T' (locs ++ L) (cells + mc) (slots + ms) ∧ (∀ z ∈ L, free z.base) ∧ T'.heap = t.heap ∧ T'.vm = t.vm ∧ XC E st₀ t ∧ t.heap[q]? = some ce ∧ ce.vm = .none ∧ s.vm.findClass E = some ce.cls ∧
      Steps p.tables e below (T.setTop g) ((T'.setTop { g with stack := rest }).pushFrame (.throwing q)))
def vx_X {S : Type} (px : S → Prop) (B : String → S → State → Prop) (A : Nat → Prop) : String → State → State → Prop := fun E st t => ∃ u : S, px u ∧ B E u t ∧ va_F A st t
section Runs
variable {p : Program} {l : Launch} {e : Env} {R : Room} {s : State} {m : MethodId} {args : Array Value} {below : List Frame} {meth : Method} {c : Code} {H : Heap} {locs : List Loc} {cells slots : Nat}
variable {y : MethodName} {bytes cc : ByteArray} {maxL nL mc ms n index : Nat} {ret : Option FieldType} {ws : List Cond} {rm : Room} {Pc : Array Value → State → Prop} {Qc : Array Value → State → Outcome → State → Prop} {XC : String → State → State → Prop} {free : Addr → Prop} {Ts : List Cond} {own C : String} {b : Addr} {As rest : List Value} {g : JFrame}
theorem vx_callBack (cb : CallB R s args own index y bytes maxL ret ws rm mc ms n) (hM : vx_Met l y ws rm Pc Qc XC mc ms free) (hbl : FrameBlind Pc) : vx_Back l R p e below s args y 3 8 (PreOf R mc ms Pc) (PostOf Qc mc ms free) (vx_Post XC mc ms free) := by
  obtain ⟨hrc, hrs, hfr, hlo, hws, hcw, -, hini, -⟩ := cb
  exact vx_back (bytes := bytes) (maxL := maxL) (ret := ret) hM hbl hrc hrs hfr hlo hws hcw (fun a' U hW => word_at hW (Or.inl (by first | rfl | simp [Cond.onTables, Cond.keeps, Cond.steady])) hini)
theorem vx_runV (S : CallFix p m c cc nL s args Ts own) (hM : vx_Met l y ws rm Pc Qc XC mc ms free) (cw : CallW R s args own C index y bytes maxL ret ws rm mc ms n) (hp : PreV s H C b Pc As)
    (hg : g.method = m) (hn : As.length = n) (hsize : g.locals.size = nL) (hstack : g.stack = As.reverse ++ .ref b :: rest) (hW : 2 * g.monitorRoom + (rest.map fun v => v.category).sum ≤ 8) (hdg : decode cc g.pc = .ok (.invokevirtual index, 3)) (hf : cells + mc ≤ R.cells ∧ slots + ms ≤ R.slots) :
    vx_Run p l e R s m args below meth c H locs cells slots mc ms g rest (Qc (Value.ref b :: As).toArray) XC free := by
  have hK : vx_Back l R p e below s args y 3 8 (PreOf R mc ms Pc) (PostOf Qc mc ms free) (vx_Post XC mc ms free) := vx_callBack cw.1 hM hp.1
  obtain ⟨⟨-, -, -, -, -, -, hcode, -, hy, hlen, hl⟩, hin, hse⟩ := cw
  obtain ⟨hx, hb, hml, ho, -⟩ := S
  obtain ⟨-, ⟨cellB, hcB, hoB, hclB⟩, hPc⟩ := hp
  intro T hT X
  rcases vx_callV X hx (C := C) (bytes := bytes) (maxL := maxL) (ret := ret) ho hl hin hse hcode hy hK (by rw [hT]; exact hcB) hoB hclB hg (hsize.trans hml.symm) (argsL := As) (rest := rest) (fun sig h => hn.trans (hlen sig h)) hstack hW (by rw [hb]; exact hdg)
    (fun vm₁ hW₁ => ⟨hf.1, hf.2, hPc (T.setVm vm₁) hT hW₁⟩) with ⟨v, vm₁, ⟨U', l2, c2, s2⟩, hW₁, X', ⟨g', mk, t, L, e1, e2, hq, h1, hL, h2, h3⟩, st⟩ | ⟨q, vm₁, ⟨U', l2, c2, s2⟩, hW₁, X', ⟨g', mk, t, L, E, ce, e1, e2, hq, hce, hcv, hcl, h1, hL, h2, h3⟩, st⟩
  · dsimp only [Pt.U, Pt.locs, Pt.cells, Pt.slots] at X' e1 e2 h1 h2 h3 st
    subst h1; subst h2; subst h3
    exact Or.inl ⟨v, (T.setVm vm₁).calling g' mk (Value.ref b :: As).toArray, t, U', L, hT, X', hL, e1, e2, hq, st⟩
  · dsimp only [Pt.U, Pt.locs, Pt.cells, Pt.slots] at X' e1 e2 h1 h2 h3 st hcl
    subst h1; subst h2; subst h3
    exact Or.inr ⟨q, (T.setVm vm₁).calling g' mk (Value.ref b :: As).toArray, t, U', L, E, ce, hT, X', hL, e1, e2, hq, hce, hcv, vx_cls hW₁ hcl, st⟩
theorem vx_runS (S : CallFix p m c cc nL s args Ts own) (hM : vx_Met l y ws rm Pc Qc XC mc ms free) (cw : CallB R s args own index y bytes maxL ret ws rm mc ms n ∧ (Cond.static y).before args s = true) (hp : PreS s H Pc As)
    (hg : g.method = m) (hn : As.length = n) (hsize : g.locals.size = nL) (hstack : g.stack = As.reverse ++ rest) (hW : 2 * g.monitorRoom + (rest.map fun v => v.category).sum ≤ 8) (hdg : decode cc g.pc = .ok (.invokestatic index, 3)) (hf : cells + mc ≤ R.cells ∧ slots + ms ≤ R.slots) :
    vx_Run p l e R s m args below meth c H locs cells slots mc ms g rest (Qc As.toArray) XC free := by
  have hK : vx_Back l R p e below s args y 3 8 (PreOf R mc ms Pc) (PostOf Qc mc ms free) (vx_Post XC mc ms free) := vx_callBack cw.1 hM hp.1
  obtain ⟨⟨-, -, -, -, -, -, hcode, hini, hy, hlen, hl⟩, hstt⟩ := cw
  obtain ⟨hx, hb, hml, ho, -⟩ := S
  intro T hT X
  rcases vx_callS X hx (bytes := bytes) (maxL := maxL) (ret := ret) ho hl hstt hini hcode hy hK hg (hsize.trans hml.symm) (argsL := As) (rest := rest) (fun sig h => hn.trans (hlen sig h)) hstack hW (by rw [hb]; exact hdg)
    (fun vm₁ hW₁ => ⟨hf.1, hf.2, hp.2 (T.setVm vm₁) hT hW₁⟩) with ⟨v, vm₁, ⟨U', l2, c2, s2⟩, hW₁, X', ⟨g', mk, t, L, e1, e2, hq, h1, hL, h2, h3⟩, st⟩ | ⟨q, vm₁, ⟨U', l2, c2, s2⟩, hW₁, X', ⟨g', mk, t, L, E, ce, e1, e2, hq, hce, hcv, hcl, h1, hL, h2, h3⟩, st⟩
  · dsimp only [Pt.U, Pt.locs, Pt.cells, Pt.slots] at X' e1 e2 h1 h2 h3 st
    subst h1; subst h2; subst h3
    exact Or.inl ⟨v, (T.setVm vm₁).calling g' mk As.toArray, t, U', L, hT, X', hL, e1, e2, hq, st⟩
  · dsimp only [Pt.U, Pt.locs, Pt.cells, Pt.slots] at X' e1 e2 h1 h2 h3 st hcl
    subst h1; subst h2; subst h3
    exact Or.inr ⟨q, (T.setVm vm₁).calling g' mk As.toArray, t, U', L, E, ce, hT, X', hL, e1, e2, hq, hce, hcv, vx_cls hW₁ hcl, st⟩
end Runs
section Rows
variable {p : Program} {l : Launch} {e : Env} {R : Room} {s : State} {m : MethodId} {args : Array Value} {below : List Frame} {meth : Method} {c : Code} {H : Heap} {locs : List Loc} {cells slots : Nat} {Q : State → Prop}
variable {mc ms : Nat} {free : Addr → Prop} {A0 A1 : Nat → Prop} {H0 : Heap} {a : Array Value} {pc : Nat} {ls : Array Slot} {st0 rest : List Value}
theorem vx_keep {st₀ t T' : State} {L : List Loc} (h0 : st₀.heap = H) (e1 : T'.heap = t.heap) (hS : va_S A0 H0 H locs) (hA : ∀ q, q < H.size → A1 q → A0 q) (hf : ∀ q, free q → A0 q) (hL : ∀ q ∈ L, free q.base) (hF : va_F A1 st₀ t) :
    H.size ≤ T'.heap.size ∧ (∀ q : Nat, q < H.size → ¬ A1 q → T'.heap[q]? = H[q]?) ∧ va_S A0 H0 T'.heap (locs ++ L) := by
  obtain ⟨hz, hk⟩ := hF
  rw [h0] at hz hk
  exact ⟨by rw [e1]; exact hz, fun q h1 h2 => by rw [e1]; exact hk q h1 h2,
    ⟨Nat.le_trans hS.1 (by rw [e1]; exact hz), fun q h1 h2 => by rw [e1, hk q (Nat.lt_of_lt_of_le h1 hS.1) (fun z => h2 (hA q (Nat.lt_of_lt_of_le h1 hS.1) z))]; exact hS.2.1 q h1 h2, fun q hq => by
      rcases List.mem_append.mp hq with h | h
      · exact hS.2.2 q h
      · exact hf _ (hL q h)⟩⟩
theorem vx_calli {S SX : Type} {post : Int32 → S → Prop} {px : SX → Prop} {B : S → State → Prop} {BX : String → SX → State → Prop} {AX : Nat → Prop} (hr : vx_Run p l e R s m args below meth c H locs cells slots mc ms (F0 m pc ls st0) rest (va_Qi post B A1 a) (vx_X px BX AX) free) (hS : va_S A0 H0 H locs) (hA : ∀ q, q < H.size → A1 q → A0 q) (hf : ∀ q, free q → A0 q) (hAX : ∀ q, q < H.size → AX q → A0 q)
    (kx : ∀ (E : String) (ce : Cell) (q9 : Addr) (u : SX) (t : State) (H1 : Heap) (locs1 : List Loc), t.heap = H1 → s.vm.Alike t.vm → px u → BX E u t → H.size ≤ H1.size → (∀ q : Nat, q < H.size → ¬ AX q → H1[q]? = H[q]?) → va_S A0 H0 H1 locs1 → H1[q9]? = some ce → ce.vm = .none → s.vm.findClass E = some ce.cls → vx_W p l e R s m args below meth c H1 locs1 (cells + mc) (slots + ms) Q (F0 m pc ls rest) q9)
    (kk : ∀ (r : Int32) (u : S) (t : State) (H1 : Heap) (locs1 : List Loc), t.heap = H1 → s.vm.Alike t.vm → post r u → B u t → H.size ≤ H1.size → (∀ q : Nat, q < H.size → ¬ A1 q → H1[q]? = H[q]?) → va_S A0 H0 H1 locs1 → W p l e R s m args below meth c H1 locs1 (cells + mc) (slots + ms) Q (F0 m (pc + 3) ls (.int r :: rest))) : W p l e R s m args below meth c H locs cells slots Q (F0 m pc ls st0) := by
  intro T hT X
  rcases hr T hT X with ⟨v, st₀, t, T', L, h0, X', hL, e1, e2, ⟨⟨r, u, hv, hp, hb⟩, hF⟩, st⟩ | ⟨q, st₀, t, T', L, E, ce, h0, X', hL, e1, e2, ⟨u, hp, hb, hF⟩, hce, hcv, hcl, st⟩
  · cases hv
    obtain ⟨k1, k2, k3⟩ := vx_keep h0 e1 hS hA hf hL hF
    obtain ⟨t2, a1, b1⟩ := kk r u t T'.heap (locs ++ L) e1.symm (by rw [← e2]; exact X'.warmed.alike) hp hb k1 k2 k3 T' rfl X'
    exact ⟨t2, st t2 a1, b1⟩
  · obtain ⟨k1, k2, k3⟩ := vx_keep h0 e1 hS hAX hf hL hF
    obtain ⟨t2, a1, b1⟩ := kx E ce q u t T'.heap (locs ++ L) e1.symm (by rw [← e2]; exact X'.warmed.alike) hp hb k1 k2 k3 (by rw [e1]; exact hce) hcv hcl T' rfl X'
    exact ⟨t2, st.trans a1, b1⟩
theorem vx_calll {S SX : Type} {post : Int64 → S → Prop} {px : SX → Prop} {B : S → State → Prop} {BX : String → SX → State → Prop} {AX : Nat → Prop} (hr : vx_Run p l e R s m args below meth c H locs cells slots mc ms (F0 m pc ls st0) rest (va_Ql post B A1 a) (vx_X px BX AX) free) (hS : va_S A0 H0 H locs) (hA : ∀ q, q < H.size → A1 q → A0 q) (hf : ∀ q, free q → A0 q) (hAX : ∀ q, q < H.size → AX q → A0 q)
    (kx : ∀ (E : String) (ce : Cell) (q9 : Addr) (u : SX) (t : State) (H1 : Heap) (locs1 : List Loc), t.heap = H1 → s.vm.Alike t.vm → px u → BX E u t → H.size ≤ H1.size → (∀ q : Nat, q < H.size → ¬ AX q → H1[q]? = H[q]?) → va_S A0 H0 H1 locs1 → H1[q9]? = some ce → ce.vm = .none → s.vm.findClass E = some ce.cls → vx_W p l e R s m args below meth c H1 locs1 (cells + mc) (slots + ms) Q (F0 m pc ls rest) q9)
    (kk : ∀ (r : Int64) (u : S) (t : State) (H1 : Heap) (locs1 : List Loc), t.heap = H1 → s.vm.Alike t.vm → post r u → B u t → H.size ≤ H1.size → (∀ q : Nat, q < H.size → ¬ A1 q → H1[q]? = H[q]?) → va_S A0 H0 H1 locs1 → W p l e R s m args below meth c H1 locs1 (cells + mc) (slots + ms) Q (F0 m (pc + 3) ls (.long r :: rest))) : W p l e R s m args below meth c H locs cells slots Q (F0 m pc ls st0) := by
  intro T hT X
  rcases hr T hT X with ⟨v, st₀, t, T', L, h0, X', hL, e1, e2, ⟨⟨r, u, hv, hp, hb⟩, hF⟩, st⟩ | ⟨q, st₀, t, T', L, E, ce, h0, X', hL, e1, e2, ⟨u, hp, hb, hF⟩, hce, hcv, hcl, st⟩
  · cases hv
    obtain ⟨k1, k2, k3⟩ := vx_keep h0 e1 hS hA hf hL hF
    obtain ⟨t2, a1, b1⟩ := kk r u t T'.heap (locs ++ L) e1.symm (by rw [← e2]; exact X'.warmed.alike) hp hb k1 k2 k3 T' rfl X'
    exact ⟨t2, st t2 a1, b1⟩
  · obtain ⟨k1, k2, k3⟩ := vx_keep h0 e1 hS hAX hf hL hF
    obtain ⟨t2, a1, b1⟩ := kx E ce q u t T'.heap (locs ++ L) e1.symm (by rw [← e2]; exact X'.warmed.alike) hp hb k1 k2 k3 (by rw [e1]; exact hce) hcv hcl T' rfl X'
    exact ⟨t2, st.trans a1, b1⟩
theorem vx_callf {S SX : Type} {post : UInt32 → S → Prop} {px : SX → Prop} {B : S → State → Prop} {BX : String → SX → State → Prop} {AX : Nat → Prop} (hr : vx_Run p l e R s m args below meth c H locs cells slots mc ms (F0 m pc ls st0) rest (va_Qf post B A1 a) (vx_X px BX AX) free) (hS : va_S A0 H0 H locs) (hA : ∀ q, q < H.size → A1 q → A0 q) (hf : ∀ q, free q → A0 q) (hAX : ∀ q, q < H.size → AX q → A0 q)
    (kx : ∀ (E : String) (ce : Cell) (q9 : Addr) (u : SX) (t : State) (H1 : Heap) (locs1 : List Loc), t.heap = H1 → s.vm.Alike t.vm → px u → BX E u t → H.size ≤ H1.size → (∀ q : Nat, q < H.size → ¬ AX q → H1[q]? = H[q]?) → va_S A0 H0 H1 locs1 → H1[q9]? = some ce → ce.vm = .none → s.vm.findClass E = some ce.cls → vx_W p l e R s m args below meth c H1 locs1 (cells + mc) (slots + ms) Q (F0 m pc ls rest) q9)
    (kk : ∀ (r : UInt32) (u : S) (t : State) (H1 : Heap) (locs1 : List Loc), t.heap = H1 → s.vm.Alike t.vm → post r u → B u t → H.size ≤ H1.size → (∀ q : Nat, q < H.size → ¬ A1 q → H1[q]? = H[q]?) → va_S A0 H0 H1 locs1 → W p l e R s m args below meth c H1 locs1 (cells + mc) (slots + ms) Q (F0 m (pc + 3) ls (.float r :: rest))) : W p l e R s m args below meth c H locs cells slots Q (F0 m pc ls st0) := by
  intro T hT X
  rcases hr T hT X with ⟨v, st₀, t, T', L, h0, X', hL, e1, e2, ⟨⟨r, u, hv, hp, hb⟩, hF⟩, st⟩ | ⟨q, st₀, t, T', L, E, ce, h0, X', hL, e1, e2, ⟨u, hp, hb, hF⟩, hce, hcv, hcl, st⟩
  · cases hv
    obtain ⟨k1, k2, k3⟩ := vx_keep h0 e1 hS hA hf hL hF
    obtain ⟨t2, a1, b1⟩ := kk r u t T'.heap (locs ++ L) e1.symm (by rw [← e2]; exact X'.warmed.alike) hp hb k1 k2 k3 T' rfl X'
    exact ⟨t2, st t2 a1, b1⟩
  · obtain ⟨k1, k2, k3⟩ := vx_keep h0 e1 hS hAX hf hL hF
    obtain ⟨t2, a1, b1⟩ := kx E ce q u t T'.heap (locs ++ L) e1.symm (by rw [← e2]; exact X'.warmed.alike) hp hb k1 k2 k3 (by rw [e1]; exact hce) hcv hcl T' rfl X'
    exact ⟨t2, st.trans a1, b1⟩
theorem vx_calld {S SX : Type} {post : UInt64 → S → Prop} {px : SX → Prop} {B : S → State → Prop} {BX : String → SX → State → Prop} {AX : Nat → Prop} (hr : vx_Run p l e R s m args below meth c H locs cells slots mc ms (F0 m pc ls st0) rest (va_Qd post B A1 a) (vx_X px BX AX) free) (hS : va_S A0 H0 H locs) (hA : ∀ q, q < H.size → A1 q → A0 q) (hf : ∀ q, free q → A0 q) (hAX : ∀ q, q < H.size → AX q → A0 q)
    (kx : ∀ (E : String) (ce : Cell) (q9 : Addr) (u : SX) (t : State) (H1 : Heap) (locs1 : List Loc), t.heap = H1 → s.vm.Alike t.vm → px u → BX E u t → H.size ≤ H1.size → (∀ q : Nat, q < H.size → ¬ AX q → H1[q]? = H[q]?) → va_S A0 H0 H1 locs1 → H1[q9]? = some ce → ce.vm = .none → s.vm.findClass E = some ce.cls → vx_W p l e R s m args below meth c H1 locs1 (cells + mc) (slots + ms) Q (F0 m pc ls rest) q9)
    (kk : ∀ (r : UInt64) (u : S) (t : State) (H1 : Heap) (locs1 : List Loc), t.heap = H1 → s.vm.Alike t.vm → post r u → B u t → H.size ≤ H1.size → (∀ q : Nat, q < H.size → ¬ A1 q → H1[q]? = H[q]?) → va_S A0 H0 H1 locs1 → W p l e R s m args below meth c H1 locs1 (cells + mc) (slots + ms) Q (F0 m (pc + 3) ls (.double r :: rest))) : W p l e R s m args below meth c H locs cells slots Q (F0 m pc ls st0) := by
  intro T hT X
  rcases hr T hT X with ⟨v, st₀, t, T', L, h0, X', hL, e1, e2, ⟨⟨r, u, hv, hp, hb⟩, hF⟩, st⟩ | ⟨q, st₀, t, T', L, E, ce, h0, X', hL, e1, e2, ⟨u, hp, hb, hF⟩, hce, hcv, hcl, st⟩
  · cases hv
    obtain ⟨k1, k2, k3⟩ := vx_keep h0 e1 hS hA hf hL hF
    obtain ⟨t2, a1, b1⟩ := kk r u t T'.heap (locs ++ L) e1.symm (by rw [← e2]; exact X'.warmed.alike) hp hb k1 k2 k3 T' rfl X'
    exact ⟨t2, st t2 a1, b1⟩
  · obtain ⟨k1, k2, k3⟩ := vx_keep h0 e1 hS hAX hf hL hF
    obtain ⟨t2, a1, b1⟩ := kx E ce q u t T'.heap (locs ++ L) e1.symm (by rw [← e2]; exact X'.warmed.alike) hp hb k1 k2 k3 (by rw [e1]; exact hce) hcv hcl T' rfl X'
    exact ⟨t2, st.trans a1, b1⟩
theorem vx_callv {S SX : Type} {post : S → Prop} {px : SX → Prop} {B : S → State → Prop} {BX : String → SX → State → Prop} {AX : Nat → Prop} (hr : vx_Run p l e R s m args below meth c H locs cells slots mc ms (F0 m pc ls st0) rest (va_Qv post B A1 a) (vx_X px BX AX) free) (hS : va_S A0 H0 H locs) (hA : ∀ q, q < H.size → A1 q → A0 q) (hf : ∀ q, free q → A0 q) (hAX : ∀ q, q < H.size → AX q → A0 q)
    (kx : ∀ (E : String) (ce : Cell) (q9 : Addr) (u : SX) (t : State) (H1 : Heap) (locs1 : List Loc), t.heap = H1 → s.vm.Alike t.vm → px u → BX E u t → H.size ≤ H1.size → (∀ q : Nat, q < H.size → ¬ AX q → H1[q]? = H[q]?) → va_S A0 H0 H1 locs1 → H1[q9]? = some ce → ce.vm = .none → s.vm.findClass E = some ce.cls → vx_W p l e R s m args below meth c H1 locs1 (cells + mc) (slots + ms) Q (F0 m pc ls rest) q9)
    (kk : ∀ (u : S) (t : State) (H1 : Heap) (locs1 : List Loc), t.heap = H1 → s.vm.Alike t.vm → post u → B u t → H.size ≤ H1.size → (∀ q : Nat, q < H.size → ¬ A1 q → H1[q]? = H[q]?) → va_S A0 H0 H1 locs1 → W p l e R s m args below meth c H1 locs1 (cells + mc) (slots + ms) Q (F0 m (pc + 3) ls (rest))) : W p l e R s m args below meth c H locs cells slots Q (F0 m pc ls st0) := by
  intro T hT X
  rcases hr T hT X with ⟨v, st₀, t, T', L, h0, X', hL, e1, e2, ⟨⟨u, hv, hp, hb⟩, hF⟩, st⟩ | ⟨q, st₀, t, T', L, E, ce, h0, X', hL, e1, e2, ⟨u, hp, hb, hF⟩, hce, hcv, hcl, st⟩
  · cases hv
    obtain ⟨k1, k2, k3⟩ := vx_keep h0 e1 hS hA hf hL hF
    obtain ⟨t2, a1, b1⟩ := kk u t T'.heap (locs ++ L) e1.symm (by rw [← e2]; exact X'.warmed.alike) hp hb k1 k2 k3 T' rfl X'
    exact ⟨t2, st t2 a1, b1⟩
  · obtain ⟨k1, k2, k3⟩ := vx_keep h0 e1 hS hAX hf hL hF
    obtain ⟨t2, a1, b1⟩ := kx E ce q u t T'.heap (locs ++ L) e1.symm (by rw [← e2]; exact X'.warmed.alike) hp hb k1 k2 k3 (by rw [e1]; exact hce) hcv hcl T' rfl X'
    exact ⟨t2, st.trans a1, b1⟩
/-- caught by the row x of this method's table; the rows ahead don't take it -/
theorem vx_catch {own name : String} {E : String} {ce : Cell} {q : Addr} (hown : s.vm.findClass own = some m.cls) (pre : List ExceptionTableEntry) (x : ExceptionTableEntry) (suf : List ExceptionTableEntry) (hsplit : c.exceptionTable.toList = pre ++ x :: suf)
    (hpass : ∀ z ∈ pre, covers z pc = false ∨ (z.catchType ≠ 0 ∧ ∃ nm : String, (Cond.classLink own z.catchType nm).before args s = true ∧ va_Nc E nm s)) (hx : covers x pc = true) (h0 : x.catchType ≠ 0)
    (hlink : (Cond.classLink own x.catchType name).before args s = true) (hcast : (Cond.castable E name).before args s = true) (hcell : H[q]? = some ce) (hv : ce.vm = .none) (hcl : s.vm.findClass E = some ce.cls)
    (kk : W p l e R s m args below meth c H locs cells slots Q (F0 m x.handlerPc ls [.ref q])) : vx_W p l e R s m args below meth c H locs cells slots Q (F0 m pc ls rest) q := by
  intro T hT X
  have hpl : e.platform.magicAccessors = ({} : Platform).magicAccessors := by rw [X.admits.platform]
  obtain ⟨c3, c4, hc3, hc4, hasg⟩ := Cond.castable_spec hcast
  cases Option.some.inj (hc3.symm.trans hcl)
  obtain ⟨c5, hc5, hcl5⟩ := Cond.classLink_spec hown hlink e.platform hpl
  cases Option.some.inj (hc4.symm.trans hc5)
  obtain ⟨vm', X', st⟩ := X.thenCaughtThrough q (g := F0 m pc ls rest) rfl (Steps.refl _) (by rw [hT]; exact hcell) (by rw [hv]; rfl) (by obtain ⟨k9, h9, -⟩ := Vm.findClass_spec hcl; exact ⟨k9, h9⟩) pre x suf hsplit
    (fun z hz => by
      rcases hpass z hz with h | ⟨hz0, nm, hl1, hn1⟩
      · exact Or.inl h
      · obtain ⟨c6, hc6, hcl6⟩ := Cond.classLink_spec hown hl1 e.platform hpl
        obtain ⟨a8, b8, h1, h2, h3⟩ := hn1
        cases Option.some.inj (h1.symm.trans hcl)
        cases Option.some.inj (h2.symm.trans hc6)
        exact Or.inr ⟨hz0, _, hcl6, h3⟩) hx (Or.inr ⟨h0, c4, hcl5, hasg⟩)
  obtain ⟨t, a1, b1⟩ := kk (T.setVm vm') hT X'
  exact ⟨t, st.trans a1, b1⟩
end Rows
section Ends
variable {p : Program} {l : Launch} {e : Env} {R : Room} {s : State} {m : MethodId} {args : Array Value} {below : List Frame} {meth : Method} {c : Code} {H : Heap} {locs : List Loc} {cells slots : Nat} {Q : State → Prop}
variable {mc ms : Nat} {free : Addr → Prop} {A0 A1 : Nat → Prop} {H0 : Heap} {a : Array Value} {ls : Array Slot} {st0 rest : List Value}
variable {Qc : Array Value → State → Outcome → State → Prop} {XC : String → State → State → Prop}
/-- what a body that may throw owes at its end -/
def vx_MQ (below : List Frame) (Qc : Array Value → State → Outcome → State → Prop) (XC : String → State → State → Prop) (a : Array Value) (s : State) (mc ms : Nat) (free : Addr → Prop) : State → Prop := fun t =>
  ∃ o, t.status = .running ∧ Ended t below o ∧ vx_Q Qc XC mc ms free a s o t
theorem vx_ret {g : JFrame} {mc ms : Nat} (k : W p l e R s m args below meth c H locs cells slots (MQ below Qc args s mc ms free) g) : W p l e R s m args below meth c H locs cells slots (vx_MQ below Qc XC args s mc ms free) g := by
  intro T hT X
  obtain ⟨t, a1, o, b1, b2, b3, b4⟩ := k T hT X
  exact ⟨t, a1, o, b1, b2, Or.inl ⟨b3, b4⟩⟩
/-- not caught here: it goes on to the caller -/
theorem vx_widen {g : JFrame} {q : Addr} {k n : Nat} (h1 : cells ≤ k) (h2 : slots ≤ n) (kk : vx_W p l e R s m args below meth c H locs k n Q g q) : vx_W p l e R s m args below meth c H locs cells slots Q g q := fun T hT X => kk T hT (stand_widen X h1 h2)
theorem vx_out {pc : Nat} {E : String} {ce : Cell} {q : Addr} {mc ms : Nat} (hout : ∀ x ∈ c.exceptionTable.toList, covers x pc = false) (hlocks : meth.locks = false) (hcell : H[q]? = some ce) (hv : ce.vm = .none) (hcl : s.vm.findClass E = some ce.cls)
    (hx : ∀ t : State, t.heap = H → s.vm.Alike t.vm → XC E s t) (hf : ∀ z ∈ locs, free z.base) (hc : cells ≤ mc) (hs : slots ≤ ms) :
    vx_W p l e R s m args below meth c H locs cells slots (vx_MQ below Qc XC args s mc ms free) (F0 m pc ls rest) q := by
  intro T hT X
  obtain ⟨st1, hrun, hend, hW, hsm⟩ := X.leaveThrown q (g := F0 m pc ls rest) rfl rfl rfl hout hlocks
  have hcell9 : (T.setFrames (.throwing q :: below)).heap[q]? = some ce := by
    show T.heap[q]? = some ce
    rw [hT]; exact hcell
  exact ⟨_, st1, .threw q, hrun, hend, Or.inr ⟨q, rfl, E, ce, locs, hx _ hT hW.alike, hcell9, hv, hcl, hW, hsm.mono hc hs, hf⟩⟩
theorem vx_frame {U : State} {k n : Nat} (h : s.sameButNew ({ U with vm := s.vm } : State) locs k n) : s.heap.size ≤ U.heap.size ∧ ∀ q : Nat, q < s.heap.size → (∀ z ∈ locs, z.base ≠ q) → U.heap[q]? = s.heap[q]? := by
  obtain ⟨-, h2, -, -, -, h6⟩ := h
  refine ⟨h2, fun q hq hz => ?_⟩
  obtain ⟨c9, e1, e2, e3, e4⟩ := h6 q _ (Array.getElem?_eq_getElem hq)
  have hs : c9.slots = (s.heap[q]).slots := Array.ext_getElem? fun i => e4 i fun hm => hz _ hm rfl
  have h9 : c9 = s.heap[q] := by
    rw [hs] at e2
    exact e2
  have e5 : U.heap[q]? = some c9 := e1
  rw [e5, h9, Array.getElem?_eq_getElem hq]
/-- the words of a throw but the four that speak of the heap -/
def vx_no (w : Cond) : Bool := decide (w ≠ .isRef (.static Bundle.tN "UNASSIGNED_STACK" Bundle.steD)) && decide (w ≠ .isRef (.static Bundle.tN "SUPPRESSED_SENTINEL" Bundle.listD)) && decide (w ≠ .laysStatic Bundle.tN "UNASSIGNED_STACK" Bundle.steD) && decide (w ≠ .laysStatic Bundle.tN "SUPPRESSED_SENTINEL" Bundle.listD)
def vx_at0 (own : String) (ic : Nat) (X : String) (names : List String) : List Cond := (Bundle.ownAtoms0 own ic X names).filter vx_no
def vx_atS (own : String) (ic : Nat) (X : String) (names : List String) : List Cond := (Bundle.ownAtoms own ic X names).filter vx_no
/-- a word that the tables alone decide, or a good one -/
def vx_ot (w : Cond) : Bool := w.onTables || goodWord w
theorem vx_ot_at {args a' : Array Value} {s U : State} {w : Cond} (hW : s.WarmedH U.vm) (hvm : s.vm = U.vm) (hg : vx_ot w = true) (h : w.before args s = true) : w.before a' U = true := by
  simp only [vx_ot, Bool.or_eq_true] at hg
  rcases hg with hg | hg
  · exact va_tabs hg hvm h
  · exact word_at hW (good_of_word hg) h
/-- a list's words: the good ones out of the method's own list, the others by premises of their own -/
theorem vx_hat {args : Array Value} {s : State} {L B : List Cond} (h1 : ∀ w ∈ L.filter goodWord, w.before args s = true) (h2 : ∀ w ∈ L.filter (fun w => !goodWord w), w ∈ B) (h3 : ∀ w ∈ B, w.before args s = true) : ∀ w ∈ L, w.before args s = true := by
  intro w hw
  by_cases g : goodWord w = true
  · exact h1 w (List.mem_filter.mpr ⟨hw, g⟩)
  · refine h3 w (h2 w (List.mem_filter.mpr ⟨hw, ?_⟩))
    show (!goodWord w) = true
    cases hgw : goodWord w
    · rfl
    · exact absurd hgw g
theorem vx_c {args : Array Value} {s : State} {w : Cond} {B : List Cond} (h : w.before args s = true) (t : ∀ w ∈ B, w.before args s = true) : ∀ w' ∈ w :: B, w'.before args s = true := fun w' h' => (List.mem_cons.mp h').elim (fun e => by rw [e]; exact h) (t w')
theorem vx_n {args : Array Value} {s : State} : ∀ w ∈ ([] : List Cond), w.before args s = true := fun _ h => nomatch h
theorem vx_own {args : Array Value} {s : State} {L : List Cond} (h1 : ∀ w ∈ L.filter vx_no, w.before args s = true)
    (hU : (Cond.isRef (.static Bundle.tN "UNASSIGNED_STACK" Bundle.steD)).before args s = true) (hN : (Cond.isRef (.static Bundle.tN "SUPPRESSED_SENTINEL" Bundle.listD)).before args s = true)
    (lU : (Cond.laysStatic Bundle.tN "UNASSIGNED_STACK" Bundle.steD).before args s = true) (lN : (Cond.laysStatic Bundle.tN "SUPPRESSED_SENTINEL" Bundle.listD).before args s = true) : ∀ w ∈ L, w.before args s = true := by
  intro w hw
  by_cases e1 : w = .isRef (.static Bundle.tN "UNASSIGNED_STACK" Bundle.steD)
  · rw [e1]; exact hU
  · by_cases e2 : w = .isRef (.static Bundle.tN "SUPPRESSED_SENTINEL" Bundle.listD)
    · rw [e2]; exact hN
    · by_cases e3 : w = .laysStatic Bundle.tN "UNASSIGNED_STACK" Bundle.steD
      · rw [e3]; exact lU
      · by_cases e4 : w = .laysStatic Bundle.tN "SUPPRESSED_SENTINEL" Bundle.listD
        · rw [e4]; exact lN
        · exact h1 w (List.mem_filter.mpr ⟨hw, by unfold vx_no; rw [decide_eq_true e1, decide_eq_true e2, decide_eq_true e3, decide_eq_true e4]; rfl⟩)
/-- where a static field lies, its class's statics cell in H -/
def vx_L (C n d : String) (A : Nat → Prop) (U : State) (H : Heap) : Prop := ∃ (c : ClassId) (k : Class) (i : Nat) (f : Field) (a : Nat) (cell : Cell), U.vm.findClass C = some c ∧ U.fieldFound? C n d = some (c, k, i, f) ∧ f.isStatic = true ∧ k.statics = some a ∧ H[a]? = some cell ∧ cell.vm.isStatics = true ∧ cell.cls = c ∧ f.slot < cell.slots.size ∧ k.staticTypes[f.slot]? = some f.type ∧ ¬ A a
theorem vx_L.moved {C n d : String} {A : Nat → Prop} {u U : State} {H : Heap} (hvm : u.vm.Alike U.vm) (h : vx_L C n d A u H) : vx_L C n d A U H := by
  obtain ⟨c, k, i, f, a, cell, h1, h2, h3, h4, h5, h6, h7, h8, h9, h10⟩ := h
  obtain ⟨k', hi', he⟩ := State.fieldFound?_setVm hvm h2
  exact ⟨c, k', i, f, a, cell, by rw [hvm.findClass]; exact h1, hi', h3, by rw [he]; exact h4, h5, h6, h7, h8, by rw [he]; exact h9, h10⟩
theorem vx_L.kept {C n d : String} {A : Nat → Prop} {U : State} {H H1 : Heap} (h : vx_L C n d A U H) (hq : ∀ a : Nat, a < H.size → ¬ A a → H1[a]? = H[a]?) : vx_L C n d A U H1 := by
  obtain ⟨c, k, i, f, a, cell, h1, h2, h3, h4, h5, h6, h7, h8, h9, h10⟩ := h
  exact ⟨c, k, i, f, a, cell, h1, h2, h3, h4, by rw [hq a (Array.getElem?_eq_some_iff.mp h5).1 h10]; exact h5, h6, h7, h8, h9, h10⟩
theorem vx_L.narrow {C n d : String} {A B : Nat → Prop} {U : State} {H : Heap} (h : vx_L C n d A U H) (hAB : ∀ q, B q → A q) : vx_L C n d B U H := by
  obtain ⟨c, k, i, f, a, cell, h1, h2, h3, h4, h5, h6, h7, h8, h9, h10⟩ := h
  exact ⟨c, k, i, f, a, cell, h1, h2, h3, h4, h5, h6, h7, h8, h9, fun z => h10 (hAB _ z)⟩
theorem vx_L.word {C n d : String} {A : Nat → Prop} {s : State} {args : Array Value} (h : vx_L C n d A s s.heap) : (Cond.laysStatic C n d).before args s = true := by
  obtain ⟨c, k, i, f, a, cell, h1, h2, h3, h4, h5, h6, h7, h8, h9, -⟩ := h
  show (Cond.laysStatic C n d).holds args s none s [] = true
  exact Cond.laysStatic_of h1 h2 h3 h4 h5 h6 h7 h8 h9
/-- .. and what it holds: null or some reference -/
def vx_Zq (C n d : String) (A : Nat → Prop) (U : State) (H : Heap) : Prop := va_Zq C n d A U H ∧ vx_L C n d A U H
theorem vx_Zq.moved {C n d : String} {A : Nat → Prop} {u U : State} {H : Heap} (hvm : u.vm.Alike U.vm) (h : vx_Zq C n d A u H) : vx_Zq C n d A U H := ⟨va_Zq.moved hvm h.1, vx_L.moved hvm h.2⟩
theorem vx_Zq.kept {C n d : String} {A : Nat → Prop} {U : State} {H H1 : Heap} (h : vx_Zq C n d A U H) (hq : ∀ a : Nat, a < H.size → ¬ A a → H1[a]? = H[a]?) : vx_Zq C n d A U H1 := ⟨va_Zq.kept h.1 hq, vx_L.kept h.2 hq⟩
theorem vx_Zq.narrow {C n d : String} {A B : Nat → Prop} {U : State} {H : Heap} (h : vx_Zq C n d A U H) (hAB : ∀ q, B q → A q) : vx_Zq C n d B U H := ⟨va_Zq.narrow h.1 hAB, vx_L.narrow h.2 hAB⟩
theorem vx_Zqof {args : Array Value} {s : State} {C n d : String} {A : Nat → Prop} (hl : (Cond.laysStatic C n d).before args s = true) (hini : (Cond.initialized C).before args s = true) (h : (Cond.isRef (.static C n d)).before args s = true) (hA : ∀ a : Nat, a < s.heap.size → ¬ A a) : vx_Zq C n d A s s.heap := by
  refine ⟨va_Zqof hl hini h hA, ?_⟩
  obtain ⟨c, k, i, f, a, cell, h1, h2, h3, h4, h5, h6, h7, h8, h9⟩ := Cond.laysStatic_spec hl
  exact ⟨c, k, i, f, a, cell, h1, h2, h3, h4, h5, h6, h7, h8, h9, hA a (Array.getElem?_eq_some_iff.mp h5).1⟩
theorem vx_isRef {C n d : String} {v : Value} {A : Nat → Prop} {s : State} {args : Array Value} (h : va_Z C n d v A s s.heap) (hv : v.isRef = true) : (Cond.isRef (.static C n d)).before args s = true := by
  obtain ⟨cf, kf, fi, f, a, cell, h1, h2, h3, h4, h5, h6, h7, -⟩ := h
  have he : (Term.static C n d).eval args s none [] s = some v := by
    simp [Term.eval, State.fieldNamed?, h1, h2, h4, h5, h6, h7]
  simp only [Cond.before, Cond.holds, Cond.value, he]
  cases v <;> simp_all [Value.isRef]
theorem vx_isRefq {C n d : String} {A : Nat → Prop} {s : State} {args : Array Value} (h : va_Zq C n d A s s.heap) : (Cond.isRef (.static C n d)).before args s = true := by
  rcases h with h | ⟨t, h⟩
  · exact vx_isRef h rfl
  · exact vx_isRef h rfl
/-- the same frame, seen from here: as if the method were called anew in this heap -/
theorem vx_rebase {T : State} (X : Stand p l e R s m args below meth c T locs cells slots) {R' : Room} (hf : R'.frames ≤ R.frames) (hl : R'.locals ≤ R.locals) (hc : cells + R'.cells ≤ R.cells) (hs : slots + R'.slots ≤ R.slots) :
    Stand p l e R' ((T.setVm s.vm).setFrames (.invoking m args :: below)) m args below meth c T [] 0 0 := by
  have htop : (T.setVm s.vm).topJava?.isSome := X.here.top
  have hF : ((T.setVm s.vm).setFrames (.invoking m args :: below)).frames = .invoking m args :: below := State.frames_setFrames _ (State.cur_lt_of_top htop)
  obtain ⟨g₀, hg0⟩ := Option.isSome_iff_exists.mp htop
  obtain ⟨r, hr⟩ := State.topJava?_eq_some.mp hg0
  have hl9 : e.platform.stackLimits (T.setVm s.vm).me = e.platform.stackLimits s.me := X.limits
  have hb9 : (T.setVm s.vm).me.stackBytes = s.me.stackBytes := X.bytes
  refine ⟨X.admits, X.cas, X.clock, hF, ?_, X.hears, X.method, X.code, X.here, X.tail, X.warmed, ?_, ?_, ?_⟩
  · have h := X.room
    have hU : ((T.setVm s.vm).setFrames (.invoking m args :: below)).localsInUse = s.localsInUse := by
      rw [State.localsInUse_invoking hF (meth := meth) (c := c) X.method X.code, State.localsInUse_invoking X.frames X.method X.code]
    simp only [State.hasRoom, Bool.and_eq_true, decide_eq_true_eq] at h ⊢
    obtain ⟨⟨⟨⟨h1, h2, h3, h4, h5, h6⟩, h7⟩, h8⟩, h9⟩ := h
    rw [X.frames, List.length_cons] at h2 h3
    have q1 := X.heapSize
    have q2 := X.used
    simp only [hF, hU, List.length_cons, State.stackLimits_setFrames, State.stackBytes_setFrames, hl9, hb9]
    refine ⟨⟨⟨⟨by omega, by omega, by omega, by omega, by omega, h6⟩, ?_⟩, ?_⟩, X.book⟩
    · show T.heap.size + R'.cells ≤ e.platform.maxCells
      omega
    · show T.slotsUsed + R'.slots ≤ e.platform.maxSlots
      omega
  · rw [State.stackLimits_setFrames]; rfl
  · rw [State.stackBytes_setFrames]; rfl
  · refine ⟨?_, Nat.le_refl _, Nat.le_refl _, ?_, ?_, fun a c9 h9 => ⟨c9, h9, rfl, rfl, fun _ _ => rfl⟩⟩
    · obtain ⟨t, ht, -⟩ := State.frames_cons hr
      show T.setVm s.vm = { ((T.setVm s.vm).setFrames (.invoking m args :: below)).setFrames (T.setVm s.vm).frames with heap := T.heap, slotsUsed := T.slotsUsed }
      rw [State.setFrames_setFrames, State.setFrames_self ht]
      rfl
    · show T.slotsUsed = T.slotsUsed + ((T.heap.toList.drop T.heap.size).map (·.slots.size)).sum
      rw [List.drop_eq_nil_of_le (Nat.le_of_eq Array.length_toList)]
      rfl
    · show ((T.heap.toList.drop T.heap.size).map (·.slots.size)).sum ≤ 0
      rw [List.drop_eq_nil_of_le (Nat.le_of_eq Array.length_toList)]
      exact Nat.le_refl _
/-- 'throw new E()': new; dup; invokespecial; athrow -/
theorem vx_throw0 {cc : ByteArray} {pc : Nat} (hexec : p.tables.exec = Jvm.exec) (hb : c.code = cc) (hl : l.stackTraces = false) {own cls : String} {names : List String} {ik ic mc ms : Nat} {A : Nat → Prop}
    (hown : s.vm.findClass own = some m.cls) (hcls : Bundle.fit cls = true) (hnames : ∀ n ∈ names, Bundle.fit n = true)
    (hk : (Cond.classLink own ik cls).before args s = true) (hini : (Cond.initialized cls).before args s = true) (hat : ∀ w ∈ vx_at0 own ic cls names, w.before args s = true)
    (hgood : ∀ w ∈ Cond.classLink own ik cls :: Cond.initialized cls :: vx_at0 own ic cls names, vx_ot w = true)
    (hU : vx_Zq Bundle.tN "UNASSIGNED_STACK" Bundle.steD A s s.heap) (hN : vx_Zq Bundle.tN "SUPPRESSED_SENTINEL" Bundle.listD A s s.heap) (hS : va_S A s.heap H locs) (hsize : ls.size = c.maxLocals)
    (d0 : decode cc pc = .ok (.new ik, 3)) (d3 : decode cc (pc + 3) = .ok (.dup, 1)) (d4 : decode cc (pc + 4) = .ok (.invokespecial ic, 3)) (d7 : decode cc (pc + 7) = .ok (.athrow, 1))
    (hout : ∀ x ∈ c.exceptionTable.toList, covers x (pc + 7) = false)
    (hRframes : names.length + 3 < R.frames) (hRlocals : (rest.map fun v => v.category).sum + (13 * (names.length + 1) + 42) ≤ R.locals) (hRcells : cells + 1 ≤ R.cells) (hRslots : slots + 6 ≤ R.slots) (hlocks : meth.locks = false)
    (hx : ∀ t : State, s.vm.Alike t.vm → H.size ≤ t.heap.size → (∀ q : Nat, q < H.size → t.heap[q]? = H[q]?) → XC cls s t)
    (hf : ∀ z ∈ locs, free z.base) (hc : cells + 1 ≤ mc) (hs : slots + 6 ≤ ms) :
    W p l e R s m args below meth c H locs cells slots (vx_MQ below Qc XC args s mc ms free) (F0 m pc ls rest) := by
  intro T hT X
  have htr : e.platform.stackTraces = false := (show e.platform.stackTraces = l.stackTraces by rw [X.admits.platform]).trans hl
  have Y := vx_rebase X (R' := { frames := R.frames, locals := R.locals, cells := 1, slots := 6 }) (Nat.le_refl _) (Nat.le_refl _) hRcells hRslots
  obtain ⟨s', hA⟩ : ∃ z, z = (T.setVm s.vm).setFrames (.invoking m args :: below) := ⟨_, rfl⟩
  rw [← hA] at Y
  have hvm : s'.vm = s.vm := by rw [hA]; rfl
  have hhp : s'.heap = H := by rw [hA]; exact hT
  have hW0 : s.WarmedH s'.vm := by rw [hvm]; exact State.WarmedH.refl s
  have hat' : ∀ w ∈ vx_at0 own ic cls names, w.before args s' = true := fun w hw => vx_ot_at hW0 hvm.symm (hgood w (List.mem_cons_of_mem _ (List.mem_cons_of_mem _ hw))) (hat w hw)
  have hk' : (Cond.classLink own ik cls).before args s' = true := vx_ot_at hW0 hvm.symm (hgood _ List.mem_cons_self) hk
  have hini' : (Cond.initialized cls).before args s' = true := vx_ot_at hW0 hvm.symm (hgood _ (List.mem_cons_of_mem _ List.mem_cons_self)) hini
  have hU' : vx_Zq Bundle.tN "UNASSIGNED_STACK" Bundle.steD A s' s'.heap := by rw [hhp]; exact vx_Zq.moved hW0.alike (hU.kept hS.2.1)
  have hN' : vx_Zq Bundle.tN "SUPPRESSED_SENTINEL" Bundle.listD A s' s'.heap := by rw [hhp]; exact vx_Zq.moved hW0.alike (hN.kept hS.2.1)
  have h : ∀ w ∈ Bundle.ownAtoms0 own ic cls names, w.before args s' = true := vx_own hat' (vx_isRefq hU'.1) (vx_isRefq hN'.1) hU'.2.word hN'.2.word
  have hown' : s'.vm.findClass own = some m.cls := by rw [hvm]; exact hown
  have hins : (Cond.instantiable cls 6).before args s' = true := h _ (by simp [Bundle.ownAtoms0])
  obtain ⟨vm₁, cX, kX, hfX, hkX, -, -, X₁, st1⟩ := Y.newCold hexec (own := own) (C := cls) (index := ik) (n := 6) hown' hk' hins hini'
    (g := F0 m pc ls rest) rfl (by rw [hb]; exact d0) (Nat.le_refl _) (Nat.le_refl _)
  generalize hT1 : (T.setVm vm₁).pushCell { cls := cX, slots := kX.instanceTypes.map defaultValue, vm := .none } = T1 at X₁ st1
  have hcat : (Value.ref T.heap.size).category = 1 := rfl
  have hcellA : T1.heap[T.heap.size]? = some (freshCell cX kX) := by rw [← hT1]; exact State.heap_pushCell_size _ _
  have d3' : decode c.code (pc + 3) = .ok (.dup, 1) := by rw [hb]; exact d3
  obtain ⟨U, hsteps, hrun, hend, hW, hsame, ce, hce, hO⟩ := X₁.ctorThrow0 hexec htr (own := own) (cls := cls) (names := names) (ic := ic) hown' hcls hnames h (fun x hx => nomatch hx) hfX hkX hcellA (by rw [hhp, hT]; exact Nat.le_refl _)
    (g := { method := m, pc := pc + 4, locals := ls, stack := .ref T.heap.size :: .ref T.heap.size :: rest, locked := none }) rfl hsize rfl rfl (rest := rest) rfl
    (by rw [hb]; exact d4) (by rw [hb]; exact d7) hout hRframes (by simp only [List.map_cons, List.sum_cons, hcat]; omega) hlocks
  obtain ⟨f1, f2⟩ := vx_frame hsame
  rw [hhp] at f1 f2
  have hWs : s.WarmedH U.vm := State.WarmedH.trans hW0 hW
  have hcl : s.vm.findClass cls = some ce.cls := by
    have h9 := hO.cls
    rw [hvm] at h9
    exact h9
  have hall : s.sameButNew ({ U with vm := s.vm } : State) locs mc ms := by
    subst hA
    obtain ⟨e1, e2⟩ := hsame
    rw [State.setFrames_setFrames] at e1
    have h2 : (T.setVm s.vm).sameButNew ({ U with vm := s.vm } : State) [] (0 + 1) (0 + 6) := ⟨e1, e2⟩
    have h3 := X.same.trans h2
    rw [List.append_nil] at h3
    exact h3.mono hc hs
  refine ⟨U, ?_, .threw T.heap.size, hrun, hend, Or.inr ⟨T.heap.size, rfl, cls, ce, locs, hx U hWs.alike f1 (fun q hq => f2 q hq (fun z hz => nomatch hz)), hce, hO.vm, hcl, hWs, hall, hf⟩⟩
  refine st1 _ ?_
  show Steps p.tables e below (T1.setTop { method := m, pc := pc + 3, locals := ls, stack := .ref T.heap.size :: rest, locked := none }) _
  jvm_step X₁.here [X₁.here.top, hexec, d3', Value.category]
  exact hsteps
/-- 'throw new E("text")': new; dup; ldc; invokespecial; athrow -/
theorem vx_throwS {cc : ByteArray} {pc : Nat} (hexec : p.tables.exec = Jvm.exec) (hb : c.code = cc) (hl : l.stackTraces = false) {own cls text : String} {names : List String} {ik is ic mc ms sa : Nat} {A : Nat → Prop}
    (hown : s.vm.findClass own = some m.cls) (hcls : Bundle.fit cls = true) (hnames : ∀ n ∈ names, Bundle.fit n = true)
    (hk : (Cond.classLink own ik cls).before args s = true) (hini : (Cond.initialized cls).before args s = true) (hstr : vk_R own is text sa s) (hat : ∀ w ∈ vx_atS own ic cls names, w.before args s = true)
    (hgood : ∀ w ∈ Cond.classLink own ik cls :: Cond.initialized cls :: vx_atS own ic cls names, vx_ot w = true)
    (hU : vx_Zq Bundle.tN "UNASSIGNED_STACK" Bundle.steD A s s.heap) (hN : vx_Zq Bundle.tN "SUPPRESSED_SENTINEL" Bundle.listD A s s.heap) (hS : va_S A s.heap H locs) (hsize : ls.size = c.maxLocals)
    (d0 : decode cc pc = .ok (.new ik, 3)) (d3 : decode cc (pc + 3) = .ok (.dup, 1)) (d4 : decode cc (pc + 4) = .ok (.ldc is, 2)) (d6 : decode cc (pc + 6) = .ok (.invokespecial ic, 3)) (d9 : decode cc (pc + 9) = .ok (.athrow, 1))
    (hout : ∀ x ∈ c.exceptionTable.toList, covers x (pc + 9) = false)
    (hRframes : names.length + 3 < R.frames) (hRlocals : (rest.map fun v => v.category).sum + (13 * (names.length + 1) + 43) ≤ R.locals) (hRcells : cells + 1 ≤ R.cells) (hRslots : slots + 6 ≤ R.slots) (hlocks : meth.locks = false)
    (hx : ∀ t : State, s.vm.Alike t.vm → H.size ≤ t.heap.size → (∀ q : Nat, q < H.size → t.heap[q]? = H[q]?) → XC cls s t)
    (hf : ∀ z ∈ locs, free z.base) (hc : cells + 1 ≤ mc) (hs : slots + 6 ≤ ms) :
    W p l e R s m args below meth c H locs cells slots (vx_MQ below Qc XC args s mc ms free) (F0 m pc ls rest) := by
  intro T hT X
  have htr : e.platform.stackTraces = false := (show e.platform.stackTraces = l.stackTraces by rw [X.admits.platform]).trans hl
  have Y := vx_rebase X (R' := { frames := R.frames, locals := R.locals, cells := 1, slots := 6 }) (Nat.le_refl _) (Nat.le_refl _) hRcells hRslots
  obtain ⟨s', hA⟩ : ∃ z, z = (T.setVm s.vm).setFrames (.invoking m args :: below) := ⟨_, rfl⟩
  rw [← hA] at Y
  have hvm : s'.vm = s.vm := by rw [hA]; rfl
  have hhp : s'.heap = H := by rw [hA]; exact hT
  have hW0 : s.WarmedH s'.vm := by rw [hvm]; exact State.WarmedH.refl s
  have hat' : ∀ w ∈ vx_atS own ic cls names, w.before args s' = true := fun w hw => vx_ot_at hW0 hvm.symm (hgood w (List.mem_cons_of_mem _ (List.mem_cons_of_mem _ hw))) (hat w hw)
  have hk' : (Cond.classLink own ik cls).before args s' = true := vx_ot_at hW0 hvm.symm (hgood _ List.mem_cons_self) hk
  have hini' : (Cond.initialized cls).before args s' = true := vx_ot_at hW0 hvm.symm (hgood _ (List.mem_cons_of_mem _ List.mem_cons_self)) hini
  have hU' : vx_Zq Bundle.tN "UNASSIGNED_STACK" Bundle.steD A s' s'.heap := by rw [hhp]; exact vx_Zq.moved hW0.alike (hU.kept hS.2.1)
  have hN' : vx_Zq Bundle.tN "SUPPRESSED_SENTINEL" Bundle.listD A s' s'.heap := by rw [hhp]; exact vx_Zq.moved hW0.alike (hN.kept hS.2.1)
  have h : ∀ w ∈ Bundle.ownAtoms own ic cls names, w.before args s' = true := vx_own hat' (vx_isRefq hU'.1) (vx_isRefq hN'.1) hU'.2.word hN'.2.word
  have hown' : s'.vm.findClass own = some m.cls := by rw [hvm]; exact hown
  have hins : (Cond.instantiable cls 6).before args s' = true := h _ (by simp [Bundle.ownAtoms])
  obtain ⟨vm₁, cX, kX, hfX, hkX, -, -, X₁, st1⟩ := Y.newCold hexec (own := own) (C := cls) (index := ik) (n := 6) hown' hk' hins hini'
    (g := F0 m pc ls rest) rfl (by rw [hb]; exact d0) (Nat.le_refl _) (Nat.le_refl _)
  generalize hT1 : (T.setVm vm₁).pushCell { cls := cX, slots := kX.instanceTypes.map defaultValue, vm := .none } = T1 at X₁ st1
  have hcat : (Value.ref T.heap.size).category = 1 := rfl
  have hcellA : T1.heap[T.heap.size]? = some (freshCell cX kX) := by rw [← hT1]; exact State.heap_pushCell_size _ _
  have d3' : decode c.code (pc + 3) = .ok (.dup, 1) := by rw [hb]; exact d3
  have d4' : decode c.code (pc + 4) = .ok (.ldc is, 2) := by rw [hb]; exact d4
  have hstr' : vk_R own is text sa s' := vk_R.warm hW0 hstr
  obtain ⟨U, hsteps, hrun, hend, hW, hsame, ce, hce, hO⟩ := X₁.ctorThrowS hexec htr (own := own) (cls := cls) (names := names) (ic := ic) hown' hcls hnames h (fun x hx => nomatch hx) hfX hkX hcellA (by rw [hhp, hT]; exact Nat.le_refl _) (msg := .ref sa) rfl
    (g := { method := m, pc := pc + 6, locals := ls, stack := .ref sa :: .ref T.heap.size :: .ref T.heap.size :: rest, locked := none }) rfl hsize rfl rfl (rest := rest) rfl
    (by rw [hb]; exact d6) (by rw [hb]; exact d9) hout hRframes (by simp only [List.map_cons, List.sum_cons, hcat]; omega) hlocks
  obtain ⟨f1, f2⟩ := vx_frame hsame
  rw [hhp] at f1 f2
  have hWs : s.WarmedH U.vm := State.WarmedH.trans hW0 hW
  have hcl : s.vm.findClass cls = some ce.cls := by
    have h9 := hO.cls
    rw [hvm] at h9
    exact h9
  have hall : s.sameButNew ({ U with vm := s.vm } : State) locs mc ms := by
    subst hA
    obtain ⟨e1, e2⟩ := hsame
    rw [State.setFrames_setFrames] at e1
    have h2 : (T.setVm s.vm).sameButNew ({ U with vm := s.vm } : State) [] (0 + 1) (0 + 6) := ⟨e1, e2⟩
    have h3 := X.same.trans h2
    rw [List.append_nil] at h3
    exact h3.mono hc hs
  refine ⟨U, ?_, .threw T.heap.size, hrun, hend, Or.inr ⟨T.heap.size, rfl, cls, ce, locs, hx U hWs.alike f1 (fun q hq => f2 q hq (fun z hz => nomatch hz)), hce, hO.vm, hcl, hWs, hall, hf⟩⟩
  refine st1 _ ?_
  show Steps p.tables e below (T1.setTop { method := m, pc := pc + 3, locals := ls, stack := .ref T.heap.size :: rest, locked := none }) _
  jvm_step X₁.here [X₁.here.top, hexec, d3', Value.category]
  exact X₁.ldcString hexec (own := own) (text := text) (index := is) (a := sa) hown' hstr'.1 hstr'.2
    (g := { method := m, pc := pc + 4, locals := ls, stack := .ref T.heap.size :: .ref T.heap.size :: rest, locked := none }) rfl d4' _ hsteps
/-- 'throw new E("text")', the text by a wide index -/
theorem vx_throwSW {cc : ByteArray} {pc : Nat} (hexec : p.tables.exec = Jvm.exec) (hb : c.code = cc) (hl : l.stackTraces = false) {own cls text : String} {names : List String} {ik is ic mc ms sa : Nat} {A : Nat → Prop}
    (hown : s.vm.findClass own = some m.cls) (hcls : Bundle.fit cls = true) (hnames : ∀ n ∈ names, Bundle.fit n = true)
    (hk : (Cond.classLink own ik cls).before args s = true) (hini : (Cond.initialized cls).before args s = true) (hstr : vk_R own is text sa s) (hat : ∀ w ∈ vx_atS own ic cls names, w.before args s = true)
    (hgood : ∀ w ∈ Cond.classLink own ik cls :: Cond.initialized cls :: vx_atS own ic cls names, vx_ot w = true)
    (hU : vx_Zq Bundle.tN "UNASSIGNED_STACK" Bundle.steD A s s.heap) (hN : vx_Zq Bundle.tN "SUPPRESSED_SENTINEL" Bundle.listD A s s.heap) (hS : va_S A s.heap H locs) (hsize : ls.size = c.maxLocals)
    (d0 : decode cc pc = .ok (.new ik, 3)) (d3 : decode cc (pc + 3) = .ok (.dup, 1)) (d4 : decode cc (pc + 4) = .ok (.ldc_w is, 3)) (d7 : decode cc (pc + 7) = .ok (.invokespecial ic, 3)) (d10 : decode cc (pc + 10) = .ok (.athrow, 1))
    (hout : ∀ x ∈ c.exceptionTable.toList, covers x (pc + 10) = false)
    (hRframes : names.length + 3 < R.frames) (hRlocals : (rest.map fun v => v.category).sum + (13 * (names.length + 1) + 43) ≤ R.locals) (hRcells : cells + 1 ≤ R.cells) (hRslots : slots + 6 ≤ R.slots) (hlocks : meth.locks = false)
    (hx : ∀ t : State, s.vm.Alike t.vm → H.size ≤ t.heap.size → (∀ q : Nat, q < H.size → t.heap[q]? = H[q]?) → XC cls s t)
    (hf : ∀ z ∈ locs, free z.base) (hc : cells + 1 ≤ mc) (hs : slots + 6 ≤ ms) :
    W p l e R s m args below meth c H locs cells slots (vx_MQ below Qc XC args s mc ms free) (F0 m pc ls rest) := by
  intro T hT X
  have htr : e.platform.stackTraces = false := (show e.platform.stackTraces = l.stackTraces by rw [X.admits.platform]).trans hl
  have Y := vx_rebase X (R' := { frames := R.frames, locals := R.locals, cells := 1, slots := 6 }) (Nat.le_refl _) (Nat.le_refl _) hRcells hRslots
  obtain ⟨s', hA⟩ : ∃ z, z = (T.setVm s.vm).setFrames (.invoking m args :: below) := ⟨_, rfl⟩
  rw [← hA] at Y
  have hvm : s'.vm = s.vm := by rw [hA]; rfl
  have hhp : s'.heap = H := by rw [hA]; exact hT
  have hW0 : s.WarmedH s'.vm := by rw [hvm]; exact State.WarmedH.refl s
  have hat' : ∀ w ∈ vx_atS own ic cls names, w.before args s' = true := fun w hw => vx_ot_at hW0 hvm.symm (hgood w (List.mem_cons_of_mem _ (List.mem_cons_of_mem _ hw))) (hat w hw)
  have hk' : (Cond.classLink own ik cls).before args s' = true := vx_ot_at hW0 hvm.symm (hgood _ List.mem_cons_self) hk
  have hini' : (Cond.initialized cls).before args s' = true := vx_ot_at hW0 hvm.symm (hgood _ (List.mem_cons_of_mem _ List.mem_cons_self)) hini
  have hU' : vx_Zq Bundle.tN "UNASSIGNED_STACK" Bundle.steD A s' s'.heap := by rw [hhp]; exact vx_Zq.moved hW0.alike (hU.kept hS.2.1)
  have hN' : vx_Zq Bundle.tN "SUPPRESSED_SENTINEL" Bundle.listD A s' s'.heap := by rw [hhp]; exact vx_Zq.moved hW0.alike (hN.kept hS.2.1)
  have h : ∀ w ∈ Bundle.ownAtoms own ic cls names, w.before args s' = true := vx_own hat' (vx_isRefq hU'.1) (vx_isRefq hN'.1) hU'.2.word hN'.2.word
  have hown' : s'.vm.findClass own = some m.cls := by rw [hvm]; exact hown
  have hins : (Cond.instantiable cls 6).before args s' = true := h _ (by simp [Bundle.ownAtoms])
  obtain ⟨vm₁, cX, kX, hfX, hkX, -, -, X₁, st1⟩ := Y.newCold hexec (own := own) (C := cls) (index := ik) (n := 6) hown' hk' hins hini'
    (g := F0 m pc ls rest) rfl (by rw [hb]; exact d0) (Nat.le_refl _) (Nat.le_refl _)
  generalize hT1 : (T.setVm vm₁).pushCell { cls := cX, slots := kX.instanceTypes.map defaultValue, vm := .none } = T1 at X₁ st1
  have hcat : (Value.ref T.heap.size).category = 1 := rfl
  have hcellA : T1.heap[T.heap.size]? = some (freshCell cX kX) := by rw [← hT1]; exact State.heap_pushCell_size _ _
  have d3' : decode c.code (pc + 3) = .ok (.dup, 1) := by rw [hb]; exact d3
  have d4' : decode c.code (pc + 4) = .ok (.ldc_w is, 3) := by rw [hb]; exact d4
  have hstr' : vk_R own is text sa s' := vk_R.warm hW0 hstr
  obtain ⟨U, hsteps, hrun, hend, hW, hsame, ce, hce, hO⟩ := X₁.ctorThrowS hexec htr (own := own) (cls := cls) (names := names) (ic := ic) hown' hcls hnames h (fun x hx => nomatch hx) hfX hkX hcellA (by rw [hhp, hT]; exact Nat.le_refl _) (msg := .ref sa) rfl
    (g := { method := m, pc := pc + 7, locals := ls, stack := .ref sa :: .ref T.heap.size :: .ref T.heap.size :: rest, locked := none }) rfl hsize rfl rfl (rest := rest) rfl
    (by rw [hb]; exact d7) (by rw [hb]; exact d10) hout hRframes (by simp only [List.map_cons, List.sum_cons, hcat]; omega) hlocks
  obtain ⟨f1, f2⟩ := vx_frame hsame
  rw [hhp] at f1 f2
  have hWs : s.WarmedH U.vm := State.WarmedH.trans hW0 hW
  have hcl : s.vm.findClass cls = some ce.cls := by
    have h9 := hO.cls
    rw [hvm] at h9
    exact h9
  have hall : s.sameButNew ({ U with vm := s.vm } : State) locs mc ms := by
    subst hA
    obtain ⟨e1, e2⟩ := hsame
    rw [State.setFrames_setFrames] at e1
    have h2 : (T.setVm s.vm).sameButNew ({ U with vm := s.vm } : State) [] (0 + 1) (0 + 6) := ⟨e1, e2⟩
    have h3 := X.same.trans h2
    rw [List.append_nil] at h3
    exact h3.mono hc hs
  refine ⟨U, ?_, .threw T.heap.size, hrun, hend, Or.inr ⟨T.heap.size, rfl, cls, ce, locs, hx U hWs.alike f1 (fun q hq => f2 q hq (fun z hz => nomatch hz)), hce, hO.vm, hcl, hWs, hall, hf⟩⟩
  refine st1 _ ?_
  show Steps p.tables e below (T1.setTop { method := m, pc := pc + 3, locals := ls, stack := .ref T.heap.size :: rest, locked := none }) _
  jvm_step X₁.here [X₁.here.top, hexec, d3', Value.category]
  exact X₁.ldcStringW hexec (own := own) (text := text) (index := is) (a := sa) hown' hstr'.1 hstr'.2
    (g := { method := m, pc := pc + 4, locals := ls, stack := .ref T.heap.size :: .ref T.heap.size :: rest, locked := none }) rfl d4' _ hsteps
end Ends
section Bodies
variable {l : Launch}
theorem vx_ofW {y : MethodName} {ws ws' : List Cond} {rm : Room} {Pc : Array Value → State → Prop} {Qc : Array Value → State → Outcome → State → Prop} {XC : String → State → State → Prop} {mc ms : Nat} {free : Addr → Prop} {cc : ByteArray} {maxL : Nat} {ret : Option FieldType}
    (hy : plainName y.cls = true) (hw : ws = Cond.code y cc maxL ret :: ws')
    (body : ∀ p e s m args below meth c s₁, BodyLoose p l y (headSpec ws rm) cc maxL ret e s m args below meth c s₁ → c.maxLocals = maxL → (∀ x ∈ c.exceptionTable.toList, False) → Pc args s →
      W p l e (headSpec ws rm).room s m args below meth c s.heap [] 0 0 (vx_MQ below Qc XC args s mc ms free) (entryFrame m args maxL)) : vx_Met l y ws rm Pc Qc XC mc ms free := by
  refine MetFree.of_bodyS (code := cc) (maxLocals := maxL) (ret := ret) hy ?_ ?_
  · intro args s m h hn
    obtain ⟨meth, c, h1, h2, h3, h4, h5, h6, -, -⟩ := Cond.code_spec hn (atoms_spec (ws := ws) h _ (by rw [hw]; exact List.mem_cons_self))
    exact ⟨meth, c, h1, h2, h3, h4, h5, h6⟩
  · intro p e s m args below meth c s₁ B hml hP _
    have hh0 : s₁.heap = s.heap := by rw [B.state]; rfl
    have ht : ∀ x ∈ c.exceptionTable.toList, False := by
      obtain ⟨meth9, c9, h1, h2, -, -, -, -, h7, -⟩ := Cond.code_spec B.named (atoms_spec (ws := ws) B.pre _ (by rw [hw]; exact List.mem_cons_self))
      cases Option.some.inj (h1.symm.trans B.method)
      cases Option.some.inj (h2.symm.trans (Stand.of_body B).code)
      intro x hx
      rw [Array.isEmpty_iff.mp h7] at hx
      cases hx
    obtain ⟨t, a1, o, b1, b2, b3⟩ := body p e s m args below meth c s₁ B hml ht hP s₁ hh0 (Stand.of_body B)
    exact ⟨t, o, a1, b1, b2, b3⟩
/-- the table of a body with handlers -/
theorem vx_table {p : Program} {x y : MethodName} {S : Spec} {cc bytes : ByteArray} {maxL maxL' : Nat} {ret ret' : Option FieldType} {e : Env} {s s₁ : State} {m : MethodId} {args : Array Value} {below : List Frame} {meth : Method} {c : Code} {hh : List (Nat × Nat × Nat × Nat)}
    (B : BodyLoose p l y S cc maxL ret e s m args below meth c s₁) (h : (Cond.codeWith y bytes maxL' ret' hh).before args s = true) : c.exceptionTable.toList = tableOf hh := by
  obtain ⟨m9, meth9, c9, hn9, h1, h2, -, -, h6, -⟩ := Cond.codeWith_spec h
  cases Option.some.inj (hn9.symm.trans B.named)
  cases Option.some.inj (h1.symm.trans B.method)
  cases Option.some.inj (h2.symm.trans (Stand.of_body B).code)
  rw [← h6, table_eq]
end Bodies
end VXA
/-! ===== END ===== -/
/-! ===== BEGIN a static call of a method with an exception table ===== -/
section VXS
variable {p : Program} {l : Launch} {e : Env} {R : Room} {s : State} {m : MethodId} {args : Array Value} {below : List Frame} {meth : Method} {c : Code} {T : State} {H : Heap} {locs : List Loc} {cells slots : Nat}
abbrev vx_CSW (R : Room) (s : State) (args : Array Value) (own : String) (index : Nat) (y : MethodName) (bytes : ByteArray) (maxL : Nat) (ret : Option FieldType) (hh : List (Nat × Nat × Nat × Nat)) (ws : List Cond) (rm : Room) (mc ms n : Nat) : Prop :=
  (rm.cells = mc ∧ rm.slots = ms ∧ rm.frames + 1 ≤ R.frames ∧ 8 + (maxL + 11) + rm.locals ≤ R.locals ∧ (∀ w ∈ ws, ∀ (a' : Array Value) (U : State), s.WarmedH U.vm → w.before a' U = true) ∧ Cond.codeWith y bytes maxL ret hh ∈ ws) ∧
  (Cond.codeWith y bytes maxL ret hh).before args s = true ∧ (Cond.initialized y.cls).before args s = true ∧ (y.cls ≠ "java/lang/invoke/MethodHandle" ∧ y.cls ≠ "java/lang/invoke/VarHandle") ∧
  (∀ sig, parseMethodDescriptor y.desc = some sig → n = sig.parameters.length) ∧ (Cond.methodLink own index y).before args s = true ∧ (Cond.static y).before args s = true
theorem vx_cwSW {own : String} {index maxL mc ms : Nat} {y : MethodName} {bytes : ByteArray} {ret : Option FieldType} {hh : List (Nat × Nat × Nat × Nat)} {Ts ws ws' : List Cond} {rm : Room} (n : Nat) (ht : ∀ w ∈ Ts, w.before args s = true) (hT : GoodIn Ts (va_wsS own index y ws)) (hw : ws = Cond.codeWith y bytes maxL ret hh :: ws') (hrc : rm.cells = mc) (hrs : rm.slots = ms)
    (hd : y.cls ≠ "java/lang/invoke/MethodHandle" ∧ y.cls ≠ "java/lang/invoke/VarHandle" ∧ (parseMethodDescriptor y.desc).map (fun d => d.parameters.length) = some n) (hR : rm.frames + 1 ≤ R.frames ∧ 8 + (maxL + 11) + rm.locals ≤ R.locals) :
    vx_CSW R s args own index y bytes maxL ret hh ws rm mc ms n := by
  have ok : ∀ w ∈ va_wsS own index y ws, w.before args s = true := fun w h => ht w (hT w h).1
  have hG : GoodIn Ts ws := fun w h => hT w (by unfold va_wsS; exact List.mem_append_right _ h)
  have hc : Cond.codeWith y bytes maxL ret hh ∈ ws := by rw [hw]; exact List.mem_cons_self
  refine ⟨⟨hrc, hrs, hR.1, hR.2, pay_in ht hG, hc⟩, ht _ (hG _ hc).1, ok _ (by simp [va_wsS]), ⟨hd.1, hd.2.1⟩, fun sig h => ?_, ok _ (by simp [va_wsS]), ok _ (by simp [va_wsS])⟩
  have h2 := hd.2.2
  rw [h] at h2
  exact (Option.some.inj h2).symm
theorem vx_callSW (X : Stand p l e R s m args below meth c T locs cells slots) (hexec : p.tables.exec = Jvm.exec) {own : String} {index : Nat} {y : MethodName} {bytes : ByteArray} {maxL : Nat} {ret : Option FieldType} {hh : List (Nat × Nat × Nat × Nat)}
    (hown : s.vm.findClass own = some m.cls) (hlink : (Cond.methodLink own index y).before args s = true) (hstat : (Cond.static y).before args s = true) (hinit : (Cond.initialized y.cls).before args s = true)
    (hcode : (Cond.codeWith y bytes maxL ret hh).before args s = true) (hy : y.cls ≠ "java/lang/invoke/MethodHandle" ∧ y.cls ≠ "java/lang/invoke/VarHandle")
    {W9 : Nat} {Pre : Pt → Array Value → Prop} {Post : Pt → Array Value → Option Value → Pt → Prop} (hK : Back l R p e below s args y 3 W9 Pre Post)
    {g : JFrame} (hg : g.method = m) (hsize : g.locals.size = c.maxLocals) {argsL rest : List Value} (hlen : ∀ sig, parseMethodDescriptor y.desc = some sig → argsL.length = sig.parameters.length)
    (hstack : g.stack = argsL.reverse ++ rest) (hW : 2 * g.monitorRoom + (rest.map fun v => v.category).sum ≤ W9) (hdg : decode c.code g.pc = .ok (.invokestatic index, 3))
    (hpre : ∀ vm₁, s.WarmedH vm₁ → Pre ⟨T.setVm vm₁, locs, cells, slots⟩ argsL.toArray) :
    ∃ (v : Option Value) (vm₁ : Vm) (B : Pt), s.WarmedH vm₁ ∧ Stand p l e R s m args below meth c B.U B.locs B.cells B.slots ∧ Post ⟨T.setVm vm₁, locs, cells, slots⟩ argsL.toArray v B ∧
      ∀ target, Steps p.tables e below (B.U.setTop { g with pc := g.pc + 3, stack := v.toList ++ rest }) target → Steps p.tables e below (T.setTop g) target := by
  obtain ⟨mk, methM, cM, hnamed, hmethM, -, -, -, -, -, -, hsigM⟩ := Cond.codeWith_spec hcode
  have hstatic : methM.isStatic = true := Cond.static_spec hnamed hmethM hstat
  obtain ⟨kP, hkP, -⟩ := className_of_methodNamed hnamed
  have hinitP : kP.init = .initialized := Cond.initialized_spec (findClass_of_methodNamed hnamed) hkP hinit
  obtain ⟨vm₁, X₁, hstep₁⟩ := X.invokestatic hexec hown hlink hnamed hmethM hstatic hkP hinitP hy (g := g) hg (argsL := argsL) (rest := rest) (hlen _ hsigM) hstack hdg
  obtain ⟨v, B, X', hpost, hsteps⟩ := hK m meth c ⟨T.setVm vm₁, locs, cells, slots⟩ { g with stack := rest } (.invokestatic index) mk argsL.toArray X₁ hg hsize hdg hW (X₁.named hnamed) (hpre vm₁ X₁.warmed)
  exact ⟨v, vm₁, B, X₁.warmed, X', hpost, fun target h => hstep₁ _ fun acts => by rw [doInvoke_state]; exact hsteps.trans h⟩
theorem vx_runSW {y : MethodName} {bytes cc : ByteArray} {maxL nL mc ms n index : Nat} {ret : Option FieldType} {hh : List (Nat × Nat × Nat × Nat)} {ws : List Cond} {rm : Room} {Pc : Array Value → State → Prop} {Qc : Array Value → State → Outcome → State → Prop} {free : Addr → Prop} {Ts : List Cond} {own : String} {As rest : List Value} {g : JFrame}
    (S : CallFix p m c cc nL s args Ts own) (hM : Met l y ws rm Pc Qc mc ms free) (cw : vx_CSW R s args own index y bytes maxL ret hh ws rm mc ms n) (hp : PreS s H Pc As)
    (hg : g.method = m) (hn : As.length = n) (hsize : g.locals.size = nL) (hstack : g.stack = As.reverse ++ rest) (hW : 2 * g.monitorRoom + (rest.map fun v => v.category).sum ≤ 8) (hdg : decode cc g.pc = .ok (.invokestatic index, 3)) (hf : cells + mc ≤ R.cells ∧ slots + ms ≤ R.slots) :
    va_Run p l e R s m args below meth c H locs cells slots mc ms g rest (Qc As.toArray) (free) := by
  obtain ⟨⟨hrc, hrs, hfr, hlo, hws, hcw⟩, hcode, hini, hy, hlen, hl, hstt⟩ := cw
  have hK : Back l R p e below s args y 3 8 (PreOf R mc ms Pc) (PostOf Qc mc ms free) := va_backW (hh := hh) (bytes := bytes) (maxL := maxL) (ret := ret) hM hp.1 hrc hrs hfr hlo hws hcw (fun a' U hW => word_at hW (Or.inl (by first | rfl | simp [Cond.onTables, Cond.keeps, Cond.steady])) hini)
  obtain ⟨hx, hb, hml, ho, -⟩ := S
  intro T hT X
  obtain ⟨v, vm₁, ⟨U', l2, c2, s2⟩, hW₁, X', ⟨g', mk, t, L, e1, e2, hq, h1, hL, h2, h3⟩, st⟩ := vx_callSW X hx (hh := hh) (bytes := bytes) (maxL := maxL) (ret := ret) ho hl hstt hini hcode hy hK hg (hsize.trans hml.symm) (argsL := As) (rest := rest) (fun sig h => hn.trans (hlen sig h)) hstack hW (by rw [hb]; exact hdg)
    (fun vm₁ hW₁ => ⟨hf.1, hf.2, hp.2 (T.setVm vm₁) hT hW₁⟩)
  dsimp only [Pt.U, Pt.locs, Pt.cells, Pt.slots] at X' e1 e2 h1 h2 h3 st
  subst h1; subst h2; subst h3
  exact ⟨v, (T.setVm vm₁).calling g' mk As.toArray, t, U', L, hT, X', hL, e1, e2, hq, st⟩
/-- not caught here, past rows that name other classes: it goes on to the caller -/
theorem vx_outP {p : Program} {l : Launch} {e : Env} {R : Room} {s : State} {m : MethodId} {args : Array Value} {below : List Frame} {meth : Method} {c : Code} {H : Heap} {locs : List Loc} {cells slots : Nat} {free : Addr → Prop} {ls : Array Slot} {rest : List Value} {Qc : Array Value → State → Outcome → State → Prop} {XC : String → State → State → Prop}
    {pc : Nat} {own E : String} {ce : Cell} {q : Addr} {mc ms : Nat} (hown : s.vm.findClass own = some m.cls) (hlocks : meth.locks = false)
    (hpass : ∀ z ∈ c.exceptionTable.toList, covers z pc = false ∨ (z.catchType ≠ 0 ∧ ∃ nm : String, (Cond.classLink own z.catchType nm).before args s = true ∧ va_Nc E nm s)) (hcell : H[q]? = some ce) (hv : ce.vm = .none) (hcl : s.vm.findClass E = some ce.cls)
    (hx : ∀ t : State, t.heap = H → s.vm.Alike t.vm → XC E s t) (hf : ∀ z ∈ locs, free z.base) (hc : cells ≤ mc) (hs : slots ≤ ms) :
    vx_W p l e R s m args below meth c H locs cells slots (vx_MQ below Qc XC args s mc ms free) (F0 m pc ls rest) q := by
  intro T hT X
  have hpl : e.platform.magicAccessors = ({} : Platform).magicAccessors := by rw [X.admits.platform]
  obtain ⟨vm', hW', X', st⟩ := X.outThrough hlocks q (g := F0 m pc ls rest) rfl rfl rfl (cell := ce) (by rw [hT]; exact hcell) (by rw [hv]; rfl)
    (by obtain ⟨k9, h9, -⟩ := Vm.findClass_spec hcl; exact ⟨k9, h9⟩) (fun z hz => by
      rcases hpass z hz with h | ⟨hz0, nm, hl1, hn1⟩
      · exact Or.inl h
      · obtain ⟨c6, hc6, hcl6⟩ := Cond.classLink_spec hown hl1 e.platform hpl
        obtain ⟨a8, b8, h1, h2, h3⟩ := hn1
        cases Option.some.inj (h1.symm.trans hcl)
        cases Option.some.inj (h2.symm.trans hc6)
        exact Or.inr ⟨hz0, _, hcl6, h3⟩)
  obtain ⟨g₀, hfr⟩ := X'.frames_eq
  have hcell9 : ((T.setVm vm').setFrames (.throwing q :: below)).heap[q]? = some ce := by
    show T.heap[q]? = some ce
    rw [hT]; exact hcell
  have hend : Ended ((T.setVm vm').setFrames (.throwing q :: below)) below (.threw q) := State.frames_setFrames _ (State.cur_lt_of_frames hfr)
  refine ⟨(T.setVm vm').setFrames (.throwing q :: below), ?_, .threw q, X'.here.running, hend, Or.inr ⟨q, rfl, E, ce, locs, hx _ hT (X'.ends _).1.alike, hcell9, hv, hcl, (X'.ends _).1, (X'.ends _).2.mono hc hs, hf⟩⟩
  rw [X.pushThrowing_eq]
  exact st
/-- a thing of a world lies in the heap -/
theorem vx_lt {D : va_G} {cl : List vw_C} {ws : va_W} {H1 : Heap} (h : va_P D cl ws H1) {k : Nat} {q : Nat × va_E} (hk : ws[k]? = some q) : q.1 < H1.size := (h k q hk).lt
end VXS
/-! ===== END ===== -/
/-! ===== BEGIN methods with a table of their own: called by a name, returning or throwing ===== -/
section VXH
/-! vx_backW, vx_callVX, vx_callSX, vx_callVW, vx_runVW, vx_runVX, vx_runSX, vx_ofWH follow the same proofs as their sisters above (Free/Laws.lean, Shelf42/LK1.lean); vx_outP calls Shelf42/NT130.lean (outThrough). -/
section
variable {l : Launch} {R : Room} {p : Program} {e : Env} {below : List Frame} {s : State} {sargs : Array Value} {y : MethodName} {len W9 : Nat}
theorem vx_backW {ws : List Cond} {rm : Room} {Pc : Array Value → State → Prop} {Qc : Array Value → State → Outcome → State → Prop} {XC : String → State → State → Prop} {mc ms : Nat} {free : Addr → Prop} {bytes : ByteArray} {maxL : Nat} {ret : Option FieldType} {hh : List (Nat × Nat × Nat × Nat)}
    (hM : vx_Met l y ws rm Pc Qc XC mc ms free) (hblind : FrameBlind Pc) (hrc : rm.cells = mc) (hrs : rm.slots = ms)
    (hframes : rm.frames + 1 ≤ R.frames) (hlocals : W9 + (maxL + 11) + rm.locals ≤ R.locals)
    (hws : ∀ w ∈ ws, ∀ a' U, s.WarmedH U.vm → w.before a' U = true) (hcode : Cond.codeWith y bytes maxL ret hh ∈ ws) (hinit : ∀ a' U, s.WarmedH U.vm → (Cond.initialized y.cls).before a' U = true) :
    vx_Back l R p e below s sargs y len W9 (PreOf R mc ms Pc) (PostOf Qc mc ms free) (vx_Post XC mc ms free) := by
  intro m meth c A g ig mk a X hg hsize hdg hW hn hp
  have h1 : (headSpec ws rm).pre.before a A.U = true := atoms_intro fun w hw => hws w hw _ _ X.warmed
  have h2 : (Cond.codeWith y bytes maxL ret hh).before a A.U = true := hws _ hcode _ _ X.warmed
  have h3 : (Cond.initialized y.cls).before a A.U = true := hinit _ _ X.warmed
  have h4 : A.cells + (headSpec ws rm).room.cells ≤ R.cells := by rw [show (headSpec ws rm).room.cells = mc from hrc]; exact hp.1
  have h5 : A.slots + (headSpec ws rm).room.slots ≤ R.slots := by rw [show (headSpec ws rm).room.slots = ms from hrs]; exact hp.2.1
  have hPc : Pc a (A.U.calling g mk a) := hblind _ _ _ _ hp.2.2
  obtain ⟨U, Ls, c0, s0⟩ := A
  dsimp only [Pt.U, Pt.locs, Pt.cells, Pt.slots] at h1 h2 h3 h4 h5 X hn hPc ⊢
  obtain ⟨m9, methY, cY, hn9, hmY, hcY, -, hlY, -⟩ := Cond.codeWith_spec h2
  cases Option.some.inj (hn9.symm.trans hn)
  obtain ⟨kY, hkY, -⟩ := className_of_methodNamed hn
  have hinitY : kY.init = .initialized := Cond.initialized_spec (findClass_of_methodNamed hn) hkY h3
  have h : At U g.method c below := by rw [hg]; exact X.here
  have hlocals9 : W9 + (maxL + 11) + (headSpec ws rm).room.locals ≤ R.locals := hlocals
  have happ : (headSpec ws rm).appliesLoose y e.platform (U.calling g mk a) = true :=
    Spec.appliesLoose_calling (g := g) h hdg hn hkY hinitY
      (X.room_calling (g := g) (R' := (headSpec ws rm).room) hsize hmY hcY hframes (by rw [hlY]; omega) h4 h5) h1
  obtain ⟨mid, hmid⟩ := h.above
  have hfr : (U.setTop g).frames = (.java g :: mid) ++ below := by rw [State.frames_setTop' g h.top, hmid]; rfl
  obtain ⟨o, s₂, hsteps, -, hend, hq⟩ := Steps.callFree hM p X.admits X.cas X.clock (acts := []) hfr happ hPc trivial
  have hq' : vx_Q Qc XC mc ms free a (U.calling g mk a) o s₂ := hq
  rw [State.frames_setTop' g h.top] at hend
  obtain ⟨g₀, hg0⟩ := Option.isSome_iff_exists.mp h.top
  obtain ⟨r, hr⟩ := State.topJava?_eq_some.mp hg0
  have hr' : (({ U with heap := s₂.heap, slotsUsed := s₂.slotsUsed } : State).setVm s₂.vm).frames = .java g₀ :: r := hr
  rcases hq' with ⟨hqc, L, hfe, hL⟩ | ⟨q, rfl, E, ce, L, hx, hce, hcv, hcl, hW₂, hsm, hL⟩
  · obtain ⟨⟨v, rfl⟩, hW₂, e2, q2, q3, q4, q5, q6⟩ := id hfe
    have e3 : s₂ = ({ (U.calling g mk a).setFrames s₂.frames with heap := s₂.heap, slotsUsed := s₂.slotsUsed } : State).setVm s₂.vm := by
      have : s₂ = ({ s₂ with vm := (U.calling g mk a).vm } : State).setVm s₂.vm := rfl
      rw [e2] at this
      exact this
    obtain ⟨c₂, i₂, len₂, hc₂, hd₂, hf₂⟩ := hend
    have hW' : U.WarmedH s₂.vm := hW₂
    have hcc : c₂ = c := by
      have h1 : s₂.code? g.method = U.code? g.method := by
        rw [State.code?_eq, State.code?_eq, hW'.alike.method?]
      exact Option.some.inj (hc₂.symm.trans (h1.trans h.code))
    subst hcc
    have hlen : len₂ = len := by rw [hdg] at hd₂; cases hd₂; rfl
    subst hlen
    have hs₂ : s₂ = (({ U with heap := s₂.heap, slotsUsed := s₂.slotsUsed } : State).setVm s₂.vm).setTop { g with pc := g.pc + len₂, stack := v.toList ++ g.stack } := by
      refine e3.trans ?_
      rw [hf₂, State.calling_eq h.top, State.setFrames_setFrames, State.setTop_of_frames _ hr', hr]
      rfl
    have hsame : U.sameButNew ({ U with heap := s₂.heap, slotsUsed := s₂.slotsUsed } : State) L mc ms := by
      refine ⟨?_, q2, q3, q4, q5, q6⟩
      obtain ⟨t, ht, -⟩ := State.frames_cons hr
      show ({ U with heap := s₂.heap, slotsUsed := s₂.slotsUsed } : State) = { U.setFrames U.frames with heap := s₂.heap, slotsUsed := s₂.slotsUsed }
      rw [State.setFrames_self ht]
    subst hg
    refine Or.inl ⟨v, ⟨(({ U with heap := s₂.heap, slotsUsed := s₂.slotsUsed } : State).setVm s₂.vm), Ls ++ L, c0 + mc, s0 + ms⟩,
      ⟨X.admits, X.cas, X.clock, X.frames, X.room, X.hears, X.method, X.code, (X.here.setHeapUsed s₂.heap s₂.slotsUsed).setVm hW'.alike, X.tail, State.WarmedH.trans X.warmed hW', X.limits, X.bytes, X.same.trans (hsame.setVm s.vm)⟩,
      ⟨g, mk, s₂, L, rfl, rfl, hqc, rfl, hL, rfl, rfl⟩, ?_⟩
    show Steps p.tables e below _ ((({ U with heap := s₂.heap, slotsUsed := s₂.slotsUsed } : State).setVm s₂.vm).setTop { g with pc := g.pc + len₂, stack := v.toList ++ g.stack })
    rw [← hs₂]
    exact hsteps
  · obtain ⟨e2, q2, q3, q4, q5, q6⟩ := id hsm
    have e3 : s₂ = ({ (U.calling g mk a).setFrames s₂.frames with heap := s₂.heap, slotsUsed := s₂.slotsUsed } : State).setVm s₂.vm := by
      have : s₂ = ({ s₂ with vm := (U.calling g mk a).vm } : State).setVm s₂.vm := rfl
      rw [e2] at this
      exact this
    have hf₂ : s₂.frames = .throwing q :: .java g :: U.frames.tail := hend
    have hW' : U.WarmedH s₂.vm := hW₂
    have hs₂ : s₂ = ((({ U with heap := s₂.heap, slotsUsed := s₂.slotsUsed } : State).setVm s₂.vm).setTop g).pushFrame (.throwing q) := by
      refine e3.trans ?_
      rw [hf₂, State.calling_eq h.top, State.setFrames_setFrames, State.pushFrame, State.frames_setTop _ hr', State.setTop_of_frames _ hr', State.setFrames_setFrames, hr]
      rfl
    have hsame : U.sameButNew ({ U with heap := s₂.heap, slotsUsed := s₂.slotsUsed } : State) L mc ms := by
      refine ⟨?_, q2, q3, q4, q5, q6⟩
      obtain ⟨t, ht, -⟩ := State.frames_cons hr
      show ({ U with heap := s₂.heap, slotsUsed := s₂.slotsUsed } : State) = { U.setFrames U.frames with heap := s₂.heap, slotsUsed := s₂.slotsUsed }
      rw [State.setFrames_self ht]
    subst hg
    refine Or.inr ⟨q, ⟨(({ U with heap := s₂.heap, slotsUsed := s₂.slotsUsed } : State).setVm s₂.vm), Ls ++ L, c0 + mc, s0 + ms⟩,
      ⟨X.admits, X.cas, X.clock, X.frames, X.room, X.hears, X.method, X.code, (X.here.setHeapUsed s₂.heap s₂.slotsUsed).setVm hW'.alike, X.tail, State.WarmedH.trans X.warmed hW', X.limits, X.bytes, X.same.trans (hsame.setVm s.vm)⟩,
      ⟨g, mk, s₂, L, E, ce, rfl, rfl, hx, hce, hcv, hcl, rfl, hL, rfl, rfl⟩, ?_⟩
    show Steps p.tables e below _ (((({ U with heap := s₂.heap, slotsUsed := s₂.slotsUsed } : State).setVm s₂.vm).setTop g).pushFrame (.throwing q))
    rw [← hs₂]
    exact hsteps
end
variable {p : Program} {l : Launch} {e : Env} {R : Room} {s : State} {m : MethodId} {args : Array Value} {below : List Frame} {meth : Method} {c : Code} {T : State} {H : Heap} {locs : List Loc} {cells slots : Nat}
theorem vx_callVX (X : Stand p l e R s m args below meth c T locs cells slots) (hexec : p.tables.exec = Jvm.exec) {own C : String} {index : Nat} {y : MethodName} {bytes : ByteArray} {maxL : Nat} {ret : Option FieldType} {hh : List (Nat × Nat × Nat × Nat)}
    (hown : s.vm.findClass own = some m.cls) (hlink : (Cond.methodLink own index y).before args s = true) (hinst : (Cond.instanceMethod y).before args s = true) (hsel : (Cond.selects C y y).before args s = true)
    (hcode : (Cond.codeWith y bytes maxL ret hh).before args s = true) (hy : y.cls ≠ "java/lang/invoke/MethodHandle" ∧ y.cls ≠ "java/lang/invoke/VarHandle")
    {W9 : Nat} {Pre : Pt → Array Value → Prop} {Post : Pt → Array Value → Option Value → Pt → Prop} {PostX : Pt → Array Value → Addr → Pt → Prop} (hK : vx_Back l R p e below s args y 3 W9 Pre Post PostX)
    {b : Addr} {cellB : Cell} (hcell : T.heap[b]? = some cellB) (hobj : cellB.vm.isStatics = false) (hcls : s.vm.findClass C = some cellB.cls)
    {g : JFrame} (hg : g.method = m) (hsize : g.locals.size = c.maxLocals) {argsL rest : List Value} (hlen : ∀ sig, parseMethodDescriptor y.desc = some sig → argsL.length = sig.parameters.length)
    (hstack : g.stack = argsL.reverse ++ .ref b :: rest) (hW : 2 * g.monitorRoom + (rest.map fun v => v.category).sum ≤ W9) (hdg : decode c.code g.pc = .ok (.invokevirtual index, 3))
    (hpre : ∀ vm₁, s.WarmedH vm₁ → Pre ⟨T.setVm vm₁, locs, cells, slots⟩ (Value.ref b :: argsL).toArray) :
    (∃ (v : Option Value) (vm₁ : Vm) (B : Pt), s.WarmedH vm₁ ∧ Stand p l e R s m args below meth c B.U B.locs B.cells B.slots ∧ Post ⟨T.setVm vm₁, locs, cells, slots⟩ (Value.ref b :: argsL).toArray v B ∧
      ∀ target, Steps p.tables e below (B.U.setTop { g with pc := g.pc + 3, stack := v.toList ++ rest }) target → Steps p.tables e below (T.setTop g) target) ∨
    (∃ (q : Addr) (vm₁ : Vm) (B : Pt), s.WarmedH vm₁ ∧ Stand p l e R s m args below meth c B.U B.locs B.cells B.slots ∧ PostX ⟨T.setVm vm₁, locs, cells, slots⟩ (Value.ref b :: argsL).toArray q B ∧
      Steps p.tables e below (T.setTop g) ((B.U.setTop { g with stack := rest }).pushFrame (.throwing q))) := by
  obtain ⟨mk, methM, hnamed, hmethM, hstM, habM⟩ := Cond.instanceMethod_spec hinst
  obtain ⟨m8, methM', cM, hn8, hmethM', -, -, -, -, -, -, hsigM⟩ := Cond.codeWith_spec hcode
  cases Option.some.inj (hn8.symm.trans hnamed)
  cases hmethM.symm.trans hmethM'
  obtain ⟨c2, r2, m2, q1, q2, q3, q4, kP, hkP, hkPi⟩ := Cond.selects_spec hsel
  cases hcls.symm.trans q1
  cases (State.methodFound?_of_named hnamed hy).symm.trans q2
  cases hnamed.symm.trans q3
  have hselP : selectMethod e.platform s.vm cellB.cls mk = .method mk := by rw [Launch.admits_selectMethod X.admits]; exact q4
  obtain ⟨vm₁, X₁, hstep₁⟩ := X.invokevirtual hexec hown hlink hnamed hmethM hstM hkP hkPi hy (a := b) (cell := cellB) hcell
    (fun z h => by rw [h] at hobj; cases hobj) hselP hmethM habM hkP hkPi (g := g) hg (argsL := argsL) (rest := rest) (hlen _ hsigM) hstack hdg
  rcases hK m meth c ⟨T.setVm vm₁, locs, cells, slots⟩ { g with stack := rest } (.invokevirtual index) mk (Value.ref b :: argsL).toArray X₁ hg hsize hdg hW (X₁.named hnamed) (hpre vm₁ X₁.warmed) with ⟨v, B, X', hpost, hsteps⟩ | ⟨q, B, X', hpost, hsteps⟩
  · exact Or.inl ⟨v, vm₁, B, X₁.warmed, X', hpost, fun target h => hstep₁ _ fun acts => by rw [doInvoke_state]; exact hsteps.trans h⟩
  · exact Or.inr ⟨q, vm₁, B, X₁.warmed, X', hpost, hstep₁ _ fun acts => by rw [doInvoke_state]; exact hsteps⟩
theorem vx_callSX (X : Stand p l e R s m args below meth c T locs cells slots) (hexec : p.tables.exec = Jvm.exec) {own : String} {index : Nat} {y : MethodName} {bytes : ByteArray} {maxL : Nat} {ret : Option FieldType} {hh : List (Nat × Nat × Nat × Nat)}
    (hown : s.vm.findClass own = some m.cls) (hlink : (Cond.methodLink own index y).before args s = true) (hstat : (Cond.static y).before args s = true) (hinit : (Cond.initialized y.cls).before args s = true)
    (hcode : (Cond.codeWith y bytes maxL ret hh).before args s = true) (hy : y.cls ≠ "java/lang/invoke/MethodHandle" ∧ y.cls ≠ "java/lang/invoke/VarHandle")
    {W9 : Nat} {Pre : Pt → Array Value → Prop} {Post : Pt → Array Value → Option Value → Pt → Prop} {PostX : Pt → Array Value → Addr → Pt → Prop} (hK : vx_Back l R p e below s args y 3 W9 Pre Post PostX)
    {g : JFrame} (hg : g.method = m) (hsize : g.locals.size = c.maxLocals) {argsL rest : List Value} (hlen : ∀ sig, parseMethodDescriptor y.desc = some sig → argsL.length = sig.parameters.length)
    (hstack : g.stack = argsL.reverse ++ rest) (hW : 2 * g.monitorRoom + (rest.map fun v => v.category).sum ≤ W9) (hdg : decode c.code g.pc = .ok (.invokestatic index, 3))
    (hpre : ∀ vm₁, s.WarmedH vm₁ → Pre ⟨T.setVm vm₁, locs, cells, slots⟩ argsL.toArray) :
    (∃ (v : Option Value) (vm₁ : Vm) (B : Pt), s.WarmedH vm₁ ∧ Stand p l e R s m args below meth c B.U B.locs B.cells B.slots ∧ Post ⟨T.setVm vm₁, locs, cells, slots⟩ argsL.toArray v B ∧
      ∀ target, Steps p.tables e below (B.U.setTop { g with pc := g.pc + 3, stack := v.toList ++ rest }) target → Steps p.tables e below (T.setTop g) target) ∨
    (∃ (q : Addr) (vm₁ : Vm) (B : Pt), s.WarmedH vm₁ ∧ Stand p l e R s m args below meth c B.U B.locs B.cells B.slots ∧ PostX ⟨T.setVm vm₁, locs, cells, slots⟩ argsL.toArray q B ∧
      Steps p.tables e below (T.setTop g) ((B.U.setTop { g with stack := rest }).pushFrame (.throwing q))) := by
  obtain ⟨mk, methM, cM, hnamed, hmethM, -, -, -, -, -, -, hsigM⟩ := Cond.codeWith_spec hcode
  have hstatic : methM.isStatic = true := Cond.static_spec hnamed hmethM hstat
  obtain ⟨kP, hkP, -⟩ := className_of_methodNamed hnamed
  have hinitP : kP.init = .initialized := Cond.initialized_spec (findClass_of_methodNamed hnamed) hkP hinit
  obtain ⟨vm₁, X₁, hstep₁⟩ := X.invokestatic hexec hown hlink hnamed hmethM hstatic hkP hinitP hy (g := g) hg (argsL := argsL) (rest := rest) (hlen _ hsigM) hstack hdg
  rcases hK m meth c ⟨T.setVm vm₁, locs, cells, slots⟩ { g with stack := rest } (.invokestatic index) mk argsL.toArray X₁ hg hsize hdg hW (X₁.named hnamed) (hpre vm₁ X₁.warmed) with ⟨v, B, X', hpost, hsteps⟩ | ⟨q, B, X', hpost, hsteps⟩
  · exact Or.inl ⟨v, vm₁, B, X₁.warmed, X', hpost, fun target h => hstep₁ _ fun acts => by rw [doInvoke_state]; exact hsteps.trans h⟩
  · exact Or.inr ⟨q, vm₁, B, X₁.warmed, X', hpost, hstep₁ _ fun acts => by rw [doInvoke_state]; exact hsteps⟩
theorem vx_callVW (X : Stand p l e R s m args below meth c T locs cells slots) (hexec : p.tables.exec = Jvm.exec) {own C : String} {index : Nat} {y : MethodName} {bytes : ByteArray} {maxL : Nat} {ret : Option FieldType} {hh : List (Nat × Nat × Nat × Nat)}
    (hown : s.vm.findClass own = some m.cls) (hlink : (Cond.methodLink own index y).before args s = true) (hinst : (Cond.instanceMethod y).before args s = true) (hsel : (Cond.selects C y y).before args s = true)
    (hcode : (Cond.codeWith y bytes maxL ret hh).before args s = true) (hy : y.cls ≠ "java/lang/invoke/MethodHandle" ∧ y.cls ≠ "java/lang/invoke/VarHandle")
    {W9 : Nat} {Pre : Pt → Array Value → Prop} {Post : Pt → Array Value → Option Value → Pt → Prop} (hK : Back l R p e below s args y 3 W9 Pre Post)
    {b : Addr} {cellB : Cell} (hcell : T.heap[b]? = some cellB) (hobj : cellB.vm.isStatics = false) (hcls : s.vm.findClass C = some cellB.cls)
    {g : JFrame} (hg : g.method = m) (hsize : g.locals.size = c.maxLocals) {argsL rest : List Value} (hlen : ∀ sig, parseMethodDescriptor y.desc = some sig → argsL.length = sig.parameters.length)
    (hstack : g.stack = argsL.reverse ++ .ref b :: rest) (hW : 2 * g.monitorRoom + (rest.map fun v => v.category).sum ≤ W9) (hdg : decode c.code g.pc = .ok (.invokevirtual index, 3))
    (hpre : ∀ vm₁, s.WarmedH vm₁ → Pre ⟨T.setVm vm₁, locs, cells, slots⟩ (Value.ref b :: argsL).toArray) :
    ∃ (v : Option Value) (vm₁ : Vm) (B : Pt), s.WarmedH vm₁ ∧ Stand p l e R s m args below meth c B.U B.locs B.cells B.slots ∧ Post ⟨T.setVm vm₁, locs, cells, slots⟩ (Value.ref b :: argsL).toArray v B ∧
      ∀ target, Steps p.tables e below (B.U.setTop { g with pc := g.pc + 3, stack := v.toList ++ rest }) target → Steps p.tables e below (T.setTop g) target := by
  obtain ⟨mk, methM, hnamed, hmethM, hstM, habM⟩ := Cond.instanceMethod_spec hinst
  obtain ⟨m8, methM', cM, hn8, hmethM', -, -, -, -, -, -, hsigM⟩ := Cond.codeWith_spec hcode
  cases Option.some.inj (hn8.symm.trans hnamed)
  cases hmethM.symm.trans hmethM'
  obtain ⟨c2, r2, m2, q1, q2, q3, q4, kP, hkP, hkPi⟩ := Cond.selects_spec hsel
  cases hcls.symm.trans q1
  cases (State.methodFound?_of_named hnamed hy).symm.trans q2
  cases hnamed.symm.trans q3
  have hselP : selectMethod e.platform s.vm cellB.cls mk = .method mk := by rw [Launch.admits_selectMethod X.admits]; exact q4
  obtain ⟨vm₁, X₁, hstep₁⟩ := X.invokevirtual hexec hown hlink hnamed hmethM hstM hkP hkPi hy (a := b) (cell := cellB) hcell
    (fun z h => by rw [h] at hobj; cases hobj) hselP hmethM habM hkP hkPi (g := g) hg (argsL := argsL) (rest := rest) (hlen _ hsigM) hstack hdg
  obtain ⟨v, B, X', hpost, hsteps⟩ := hK m meth c ⟨T.setVm vm₁, locs, cells, slots⟩ { g with stack := rest } (.invokevirtual index) mk (Value.ref b :: argsL).toArray X₁ hg hsize hdg hW (X₁.named hnamed) (hpre vm₁ X₁.warmed)
  exact ⟨v, vm₁, B, X₁.warmed, X', hpost, fun target h => hstep₁ _ fun acts => by rw [doInvoke_state]; exact hsteps.trans h⟩
abbrev vx_CVW (R : Room) (s : State) (args : Array Value) (own C : String) (index : Nat) (y : MethodName) (bytes : ByteArray) (maxL : Nat) (ret : Option FieldType) (hh : List (Nat × Nat × Nat × Nat)) (ws : List Cond) (rm : Room) (mc ms n : Nat) : Prop :=
  (rm.cells = mc ∧ rm.slots = ms ∧ rm.frames + 1 ≤ R.frames ∧ 8 + (maxL + 11) + rm.locals ≤ R.locals ∧ (∀ w ∈ ws, ∀ (a' : Array Value) (U : State), s.WarmedH U.vm → w.before a' U = true) ∧ Cond.codeWith y bytes maxL ret hh ∈ ws) ∧
  (Cond.codeWith y bytes maxL ret hh).before args s = true ∧ (Cond.initialized y.cls).before args s = true ∧ (y.cls ≠ "java/lang/invoke/MethodHandle" ∧ y.cls ≠ "java/lang/invoke/VarHandle") ∧
  (∀ sig, parseMethodDescriptor y.desc = some sig → n = sig.parameters.length) ∧ (Cond.methodLink own index y).before args s = true ∧ (Cond.instanceMethod y).before args s = true ∧ (Cond.selects C y y).before args s = true
theorem vx_cwVW {own C : String} {index maxL mc ms : Nat} {y : MethodName} {bytes : ByteArray} {ret : Option FieldType} {hh : List (Nat × Nat × Nat × Nat)} {Ts ws ws' : List Cond} {rm : Room} (n : Nat) (ht : ∀ w ∈ Ts, w.before args s = true) (hT : GoodIn Ts (wsV own index C y ws)) (hw : ws = Cond.codeWith y bytes maxL ret hh :: ws') (hrc : rm.cells = mc) (hrs : rm.slots = ms)
    (hd : y.cls = C ∧ y.cls ≠ "java/lang/invoke/MethodHandle" ∧ y.cls ≠ "java/lang/invoke/VarHandle" ∧ (parseMethodDescriptor y.desc).map (fun d => d.parameters.length) = some n) (hR : rm.frames + 1 ≤ R.frames ∧ 8 + (maxL + 11) + rm.locals ≤ R.locals) :
    vx_CVW R s args own C index y bytes maxL ret hh ws rm mc ms n := by
  obtain ⟨hC, hd⟩ := hd
  subst hC
  have ok : ∀ w ∈ wsV own index y.cls y ws, w.before args s = true := fun w h => ht w (hT w h).1
  have hG : GoodIn Ts ws := fun w h => hT w (by unfold wsV; exact List.mem_append_right _ h)
  have hc : Cond.codeWith y bytes maxL ret hh ∈ ws := by rw [hw]; exact List.mem_cons_self
  refine ⟨⟨hrc, hrs, hR.1, hR.2, pay_in ht hG, hc⟩, ht _ (hG _ hc).1, ok _ (by simp [wsV]), ⟨hd.1, hd.2.1⟩, fun sig h => ?_, ok _ (by simp [wsV]), ok _ (by simp [wsV]), ok _ (by simp [wsV])⟩
  have h2 := hd.2.2
  rw [h] at h2
  exact (Option.some.inj h2).symm
theorem vx_runVW {y : MethodName} {bytes cc : ByteArray} {maxL nL mc ms n index : Nat} {ret : Option FieldType} {hh : List (Nat × Nat × Nat × Nat)} {ws : List Cond} {rm : Room} {Pc : Array Value → State → Prop} {Qc : Array Value → State → Outcome → State → Prop} {free : Addr → Prop} {Ts : List Cond} {own C : String} {b : Addr} {As rest : List Value} {g : JFrame}
    (S : CallFix p m c cc nL s args Ts own) (hM : Met l y ws rm Pc Qc mc ms free) (cw : vx_CVW R s args own C index y bytes maxL ret hh ws rm mc ms n) (hp : PreV s H C b Pc As)
    (hg : g.method = m) (hn : As.length = n) (hsize : g.locals.size = nL) (hstack : g.stack = As.reverse ++ .ref b :: rest) (hW : 2 * g.monitorRoom + (rest.map fun v => v.category).sum ≤ 8) (hdg : decode cc g.pc = .ok (.invokevirtual index, 3)) (hf : cells + mc ≤ R.cells ∧ slots + ms ≤ R.slots) :
    va_Run p l e R s m args below meth c H locs cells slots mc ms g rest (Qc (Value.ref b :: As).toArray) free := by
  obtain ⟨⟨hrc, hrs, hfr, hlo, hws, hcw⟩, hcode, hini, hy, hlen, hl, hin, hse⟩ := cw
  have hK : Back l R p e below s args y 3 8 (PreOf R mc ms Pc) (PostOf Qc mc ms free) := va_backW (hh := hh) (bytes := bytes) (maxL := maxL) (ret := ret) hM hp.1 hrc hrs hfr hlo hws hcw (fun a' U hW => word_at hW (Or.inl (by first | rfl | simp [Cond.onTables, Cond.keeps, Cond.steady])) hini)
  obtain ⟨hx, hb, hml, ho, -⟩ := S
  obtain ⟨-, ⟨cellB, hcB, hoB, hclB⟩, hPc⟩ := hp
  intro T hT X
  obtain ⟨v, vm₁, ⟨U', l2, c2, s2⟩, hW₁, X', ⟨g', mk, t, L, e1, e2, hq, h1, hL, h2, h3⟩, st⟩ := vx_callVW X hx (C := C) (hh := hh) (bytes := bytes) (maxL := maxL) (ret := ret) ho hl hin hse hcode hy hK (by rw [hT]; exact hcB) hoB hclB hg (hsize.trans hml.symm) (argsL := As) (rest := rest) (fun sig h => hn.trans (hlen sig h)) hstack hW (by rw [hb]; exact hdg)
    (fun vm₁ hW₁ => ⟨hf.1, hf.2, hPc (T.setVm vm₁) hT hW₁⟩)
  dsimp only [Pt.U, Pt.locs, Pt.cells, Pt.slots] at X' e1 e2 h1 h2 h3 st
  subst h1; subst h2; subst h3
  exact ⟨v, (T.setVm vm₁).calling g' mk (Value.ref b :: As).toArray, t, U', L, hT, X', hL, e1, e2, hq, st⟩
section
variable {y : MethodName} {bytes cc : ByteArray} {maxL nL mc ms n index : Nat} {ret : Option FieldType} {ws : List Cond} {rm : Room} {Pc : Array Value → State → Prop} {Qc : Array Value → State → Outcome → State → Prop} {XC : String → State → State → Prop} {free : Addr → Prop} {Ts : List Cond} {own C : String} {b : Addr} {As rest : List Value} {g : JFrame}
theorem vx_runVX {hh : List (Nat × Nat × Nat × Nat)} (S : CallFix p m c cc nL s args Ts own) (hM : vx_Met l y ws rm Pc Qc XC mc ms free) (cw : vx_CVW R s args own C index y bytes maxL ret hh ws rm mc ms n) (hp : PreV s H C b Pc As)
    (hg : g.method = m) (hn : As.length = n) (hsize : g.locals.size = nL) (hstack : g.stack = As.reverse ++ .ref b :: rest) (hW : 2 * g.monitorRoom + (rest.map fun v => v.category).sum ≤ 8) (hdg : decode cc g.pc = .ok (.invokevirtual index, 3)) (hf : cells + mc ≤ R.cells ∧ slots + ms ≤ R.slots) :
    vx_Run p l e R s m args below meth c H locs cells slots mc ms g rest (Qc (Value.ref b :: As).toArray) XC free := by
  obtain ⟨⟨hrc, hrs, hfr, hlo, hws, hcw⟩, hcode, hini, hy, hlen, hl, hin, hse⟩ := cw
  have hK : vx_Back l R p e below s args y 3 8 (PreOf R mc ms Pc) (PostOf Qc mc ms free) (vx_Post XC mc ms free) := vx_backW (hh := hh) (bytes := bytes) (maxL := maxL) (ret := ret) hM hp.1 hrc hrs hfr hlo hws hcw (fun a' U hW => word_at hW (Or.inl (by first | rfl | simp [Cond.onTables, Cond.keeps, Cond.steady])) hini)
  obtain ⟨hx, hb, hml, ho, -⟩ := S
  obtain ⟨-, ⟨cellB, hcB, hoB, hclB⟩, hPc⟩ := hp
  intro T hT X
  rcases vx_callVX X hx (C := C) (hh := hh) (bytes := bytes) (maxL := maxL) (ret := ret) ho hl hin hse hcode hy hK (by rw [hT]; exact hcB) hoB hclB hg (hsize.trans hml.symm) (argsL := As) (rest := rest) (fun sig h => hn.trans (hlen sig h)) hstack hW (by rw [hb]; exact hdg)
    (fun vm₁ hW₁ => ⟨hf.1, hf.2, hPc (T.setVm vm₁) hT hW₁⟩) with ⟨v, vm₁, ⟨U', l2, c2, s2⟩, hW₁, X', ⟨g', mk, t, L, e1, e2, hq, h1, hL, h2, h3⟩, st⟩ | ⟨q, vm₁, ⟨U', l2, c2, s2⟩, hW₁, X', ⟨g', mk, t, L, E, ce, e1, e2, hq, hce, hcv, hcl, h1, hL, h2, h3⟩, st⟩
  · dsimp only [Pt.U, Pt.locs, Pt.cells, Pt.slots] at X' e1 e2 h1 h2 h3 st
    subst h1; subst h2; subst h3
    exact Or.inl ⟨v, (T.setVm vm₁).calling g' mk (Value.ref b :: As).toArray, t, U', L, hT, X', hL, e1, e2, hq, st⟩
  · dsimp only [Pt.U, Pt.locs, Pt.cells, Pt.slots] at X' e1 e2 h1 h2 h3 st hcl
    subst h1; subst h2; subst h3
    exact Or.inr ⟨q, (T.setVm vm₁).calling g' mk (Value.ref b :: As).toArray, t, U', L, E, ce, hT, X', hL, e1, e2, hq, hce, hcv, vx_cls hW₁ hcl, st⟩
theorem vx_runSX {hh : List (Nat × Nat × Nat × Nat)} (S : CallFix p m c cc nL s args Ts own) (hM : vx_Met l y ws rm Pc Qc XC mc ms free) (cw : vx_CSW R s args own index y bytes maxL ret hh ws rm mc ms n) (hp : PreS s H Pc As)
    (hg : g.method = m) (hn : As.length = n) (hsize : g.locals.size = nL) (hstack : g.stack = As.reverse ++ rest) (hW : 2 * g.monitorRoom + (rest.map fun v => v.category).sum ≤ 8) (hdg : decode cc g.pc = .ok (.invokestatic index, 3)) (hf : cells + mc ≤ R.cells ∧ slots + ms ≤ R.slots) :
    vx_Run p l e R s m args below meth c H locs cells slots mc ms g rest (Qc As.toArray) XC free := by
  obtain ⟨⟨hrc, hrs, hfr, hlo, hws, hcw⟩, hcode, hini, hy, hlen, hl, hstt⟩ := cw
  have hK : vx_Back l R p e below s args y 3 8 (PreOf R mc ms Pc) (PostOf Qc mc ms free) (vx_Post XC mc ms free) := vx_backW (hh := hh) (bytes := bytes) (maxL := maxL) (ret := ret) hM hp.1 hrc hrs hfr hlo hws hcw (fun a' U hW => word_at hW (Or.inl (by first | rfl | simp [Cond.onTables, Cond.keeps, Cond.steady])) hini)
  obtain ⟨hx, hb, hml, ho, -⟩ := S
  intro T hT X
  rcases vx_callSX X hx (hh := hh) (bytes := bytes) (maxL := maxL) (ret := ret) ho hl hstt hini hcode hy hK hg (hsize.trans hml.symm) (argsL := As) (rest := rest) (fun sig h => hn.trans (hlen sig h)) hstack hW (by rw [hb]; exact hdg)
    (fun vm₁ hW₁ => ⟨hf.1, hf.2, hp.2 (T.setVm vm₁) hT hW₁⟩) with ⟨v, vm₁, ⟨U', l2, c2, s2⟩, hW₁, X', ⟨g', mk, t, L, e1, e2, hq, h1, hL, h2, h3⟩, st⟩ | ⟨q, vm₁, ⟨U', l2, c2, s2⟩, hW₁, X', ⟨g', mk, t, L, E, ce, e1, e2, hq, hce, hcv, hcl, h1, hL, h2, h3⟩, st⟩
  · dsimp only [Pt.U, Pt.locs, Pt.cells, Pt.slots] at X' e1 e2 h1 h2 h3 st
    subst h1; subst h2; subst h3
    exact Or.inl ⟨v, (T.setVm vm₁).calling g' mk As.toArray, t, U', L, hT, X', hL, e1, e2, hq, st⟩
  · dsimp only [Pt.U, Pt.locs, Pt.cells, Pt.slots] at X' e1 e2 h1 h2 h3 st hcl
    subst h1; subst h2; subst h3
    exact Or.inr ⟨q, (T.setVm vm₁).calling g' mk As.toArray, t, U', L, E, ce, hT, X', hL, e1, e2, hq, hce, hcv, vx_cls hW₁ hcl, st⟩
end
end VXH
theorem vx_ofWH {l : Launch} {y : MethodName} {ws ws' : List Cond} {rm : Room} {Pc : Array Value → State → Prop} {Qc : Array Value → State → Outcome → State → Prop} {XC : String → State → State → Prop} {mc ms : Nat} {free : Addr → Prop} {cc : ByteArray} {maxL : Nat} {ret : Option FieldType} {hh : List (Nat × Nat × Nat × Nat)}
    (hy : plainName y.cls = true) (hw : ws = Cond.codeWith y cc maxL ret hh :: ws')
    (body : ∀ p e s m args below meth c s₁, BodyLoose p l y (headSpec ws rm) cc maxL ret e s m args below meth c s₁ → c.maxLocals = maxL → Pc args s →
      W p l e (headSpec ws rm).room s m args below meth c s.heap [] 0 0 (vx_MQ below Qc XC args s mc ms free) (entryFrame m args maxL)) : vx_Met l y ws rm Pc Qc XC mc ms free := by
  refine MetFree.of_bodyS (code := cc) (maxLocals := maxL) (ret := ret) hy ?_ ?_
  · intro args s m h hn
    obtain ⟨m9, meth, c, hn9, h1, h2, h3, h4, -, h5, h6, -⟩ := Cond.codeWith_spec (atoms_spec (ws := ws) h _ (by rw [hw]; exact List.mem_cons_self))
    cases hn.symm.trans hn9
    exact ⟨meth, c, h1, h2, h3, h4, h5, h6⟩
  · intro p e s m args below meth c s₁ B hml hP _
    have hh0 : s₁.heap = s.heap := by rw [B.state]; rfl
    obtain ⟨t, a1, o, b1, b2, b3⟩ := body p e s m args below meth c s₁ B hml hP s₁ hh0 (Stand.of_body B)
    exact ⟨t, o, a1, b1, b2, b3⟩
/-! ===== END ===== -/

/-! ===== names, out of the printed ones ===== -/
def RX0 : String := "HerdCords$Cord"
def TX0 : u_T := fun k => match k with
  | 0 => ("HerdCords$Cord", "knots", "[I", true)
  | 1 => ("HerdCords$Cord", "loops", "[I", true)
  | 2 => ("HerdCords$Cord", "parts", "[I", true)
  | 3 => ("HerdCords$Cord", "partCount", "I", false)
  | 4 => ("HerdCords$Cord", "hue", "I", false)
  | _ => ("HerdCords$Cord", "slips", "I", false)
def tyX0 : Nat → FieldType := fun k => match k with
  | 0 => .array .int
  | 1 => .array .int
  | 2 => .array .int
  | 3 => .int
  | 4 => .int
  | _ => .int
abbrev wsX00 : List Cond := u_ws RX0 TX0 6
theorem nmX0 : ∀ a, a < 6 → ∀ b, b < 6 → a ≠ b → (TX0 a).2.1 ≠ (TX0 b).2.1 := by decide +kernel
theorem tyX0_ok : ∀ k, k < 6 → parseFieldDescriptor (TX0 k).2.2.1 = some (tyX0 k) := by decide +kernel
abbrev cX0_init : ByteArray := prog_2_method_1_code
def yX0_init : MethodName := ⟨RX0, "<init>", "()V"⟩
abbrev cX0_copyFrom : ByteArray := prog_2_method_2_code
def yX0_copyFrom : MethodName := ⟨RX0, "copyFrom", "(LHerdCords$Cord;)V"⟩
abbrev cX0_becomeNew : ByteArray := prog_2_method_3_code
def yX0_becomeNew : MethodName := ⟨RX0, "becomeNew", "()V"⟩
abbrev cX0_open : ByteArray := prog_2_method_4_code
def yX0_open : MethodName := ⟨RX0, "open", "(I)I"⟩
abbrev cX0_tiesAt : ByteArray := prog_2_method_5_code
def yX0_tiesAt : MethodName := ⟨RX0, "tiesAt", "(I)I"⟩
abbrev cX0_told : ByteArray := prog_2_method_6_code
def yX0_told : MethodName := ⟨RX0, "told", "()I"⟩
abbrev cX0_partsTogether : ByteArray := prog_2_method_7_code
def yX0_partsTogether : MethodName := ⟨RX0, "partsTogether", "()I"⟩
abbrev cX0_lack : ByteArray := prog_2_method_8_code
def yX0_lack : MethodName := ⟨RX0, "lack", "()I"⟩
abbrev cX0_allKnots : ByteArray := prog_2_method_9_code
def yX0_allKnots : MethodName := ⟨RX0, "allKnots", "()I"⟩
abbrev cX0_allLoops : ByteArray := prog_2_method_10_code
def yX0_allLoops : MethodName := ⟨RX0, "allLoops", "()I"⟩
abbrev cX0_ties : ByteArray := prog_2_method_11_code
def yX0_ties : MethodName := ⟨RX0, "ties", "()I"⟩
abbrev cX0_refusal : ByteArray := prog_2_method_12_code
def yX0_refusal : MethodName := ⟨RX0, "refusal", "(II)I"⟩
abbrev cX0_refusalOfPart : ByteArray := prog_2_method_13_code
def yX0_refusalOfPart : MethodName := ⟨RX0, "refusalOfPart", "(II)I"⟩
abbrev cX0_tieKnots : ByteArray := prog_2_method_14_code
def yX0_tieKnots : MethodName := ⟨RX0, "tieKnots", "(I)V"⟩
abbrev cX0_tieAsPart : ByteArray := prog_2_method_15_code
def yX0_tieAsPart : MethodName := ⟨RX0, "tieAsPart", "(I)V"⟩
abbrev cX0_loopsFor : ByteArray := prog_2_method_16_code
def yX0_loopsFor : MethodName := ⟨RX0, "loopsFor", "(II)I"⟩
abbrev cX0_sumOf : ByteArray := prog_2_method_17_code
def yX0_sumOf : MethodName := ⟨RX0, "sumOf", "([II)I"⟩
def RX1 : String := "HerdCords$Herd"
def TX1 : u_T := fun k => match k with
  | 0 => ("HerdCords$Herd", "cords", "[LHerdCords$Cord;", true)
  | 1 => ("HerdCords$Herd", "room", "I", false)
  | 2 => ("HerdCords$Herd", "knotsTied", "I", false)
  | 3 => ("HerdCords$Herd", "loopsTied", "I", false)
  | 4 => ("HerdCords$Herd", "slips", "I", false)
  | 5 => ("HerdCords$Herd", "gone", "I", false)
  | _ => ("HerdCords$Herd", "refused", "I", false)
def tyX1 : Nat → FieldType := fun k => match k with
  | 0 => .array (.object "HerdCords$Cord")
  | 1 => .int
  | 2 => .int
  | 3 => .int
  | 4 => .int
  | 5 => .int
  | _ => .int
abbrev wsX10 : List Cond := u_ws RX1 TX1 7
theorem nmX1 : ∀ a, a < 7 → ∀ b, b < 7 → a ≠ b → (TX1 a).2.1 ≠ (TX1 b).2.1 := by decide +kernel
theorem tyX1_ok : ∀ k, k < 7 → parseFieldDescriptor (TX1 k).2.2.1 = some (tyX1 k) := by decide +kernel
abbrev cX1_init : ByteArray := prog_3_method_1_code
def yX1_init : MethodName := ⟨RX1, "<init>", "()V"⟩
abbrev cX1_copyFrom : ByteArray := prog_3_method_2_code
def yX1_copyFrom : MethodName := ⟨RX1, "copyFrom", "(LHerdCords$Herd;)V"⟩
abbrev cX1_tiePart : ByteArray := prog_3_method_3_code
def yX1_tiePart : MethodName := ⟨RX1, "tiePart", "(LHerdCords$Cord;I)I"⟩
abbrev cX1_tieCord : ByteArray := prog_3_method_4_code
def yX1_tieCord : MethodName := ⟨RX1, "tieCord", "(LHerdCords$Cord;LHerdCords$Cord;)I"⟩
abbrev cX1_tieLack : ByteArray := prog_3_method_5_code
def yX1_tieLack : MethodName := ⟨RX1, "tieLack", "(LHerdCords$Cord;)I"⟩
abbrev cX1_countTied : ByteArray := prog_3_method_6_code
def yX1_countTied : MethodName := ⟨RX1, "countTied", "(LHerdCords$Cord;II)I"⟩
abbrev cX1_loosen : ByteArray := prog_3_method_7_code
def yX1_loosen : MethodName := ⟨RX1, "loosen", "(LHerdCords$Cord;I)I"⟩
abbrev cX1_replace : ByteArray := prog_3_method_8_code
def yX1_replace : MethodName := ⟨RX1, "replace", "(LHerdCords$Cord;)I"⟩
abbrev cX1_tellEach : ByteArray := prog_3_method_9_code
def yX1_tellEach : MethodName := ⟨RX1, "tellEach", "([I)V"⟩
abbrev cX1_told : ByteArray := prog_3_method_10_code
def yX1_told : MethodName := ⟨RX1, "told", "()I"⟩
abbrev cX1_toldInHue : ByteArray := prog_3_method_11_code
def yX1_toldInHue : MethodName := ⟨RX1, "toldInHue", "(I)I"⟩
abbrev cX1_knots : ByteArray := prog_3_method_12_code
def yX1_knots : MethodName := ⟨RX1, "knots", "()I"⟩
abbrev cX1_loops : ByteArray := prog_3_method_13_code
def yX1_loops : MethodName := ⟨RX1, "loops", "()I"⟩
abbrev cX1_ties : ByteArray := prog_3_method_14_code
def yX1_ties : MethodName := ⟨RX1, "ties", "()I"⟩
abbrev cX1_lacking : ByteArray := prog_3_method_15_code
def yX1_lacking : MethodName := ⟨RX1, "lacking", "()I"⟩
abbrev cX1_fullestCord : ByteArray := prog_3_method_16_code
def yX1_fullestCord : MethodName := ⟨RX1, "fullestCord", "()I"⟩
def RX2 : String := "HerdCords$History"
def TX2 : u_T := fun k => match k with
  | 0 => ("HerdCords$History", "saved", "[LHerdCords$Herd;", true)
  | 1 => ("HerdCords$History", "next", "I", false)
  | _ => ("HerdCords$History", "size", "I", false)
def tyX2 : Nat → FieldType := fun k => match k with
  | 0 => .array (.object "HerdCords$Herd")
  | 1 => .int
  | _ => .int
abbrev wsX20 : List Cond := u_ws RX2 TX2 3
theorem nmX2 : ∀ a, a < 3 → ∀ b, b < 3 → a ≠ b → (TX2 a).2.1 ≠ (TX2 b).2.1 := by decide +kernel
theorem tyX2_ok : ∀ k, k < 3 → parseFieldDescriptor (TX2 k).2.2.1 = some (tyX2 k) := by decide +kernel
abbrev cX2_init : ByteArray := prog_4_method_1_code
def yX2_init : MethodName := ⟨RX2, "<init>", "()V"⟩
abbrev cX2_save : ByteArray := prog_4_method_2_code
def yX2_save : MethodName := ⟨RX2, "save", "(LHerdCords$Herd;)V"⟩
abbrev cX2_restore : ByteArray := prog_4_method_3_code
def yX2_restore : MethodName := ⟨RX2, "restore", "(LHerdCords$Herd;)V"⟩
def RX3 : String := "HerdCords$OrderReader"
def TX3 : u_T := fun k => match k with
  | 0 => ("HerdCords$OrderReader", "step", "I", false)
  | 1 => ("HerdCords$OrderReader", "digits", "I", false)
  | 2 => ("HerdCords$OrderReader", "cord", "I", false)
  | 3 => ("HerdCords$OrderReader", "kind", "C", false)
  | _ => ("HerdCords$OrderReader", "value", "I", false)
def tyX3 : Nat → FieldType := fun k => match k with
  | 0 => .int
  | 1 => .int
  | 2 => .int
  | 3 => .char
  | _ => .int
abbrev wsX30 : List Cond := u_ws RX3 TX3 5
theorem nmX3 : ∀ a, a < 5 → ∀ b, b < 5 → a ≠ b → (TX3 a).2.1 ≠ (TX3 b).2.1 := by decide +kernel
theorem tyX3_ok : ∀ k, k < 5 → parseFieldDescriptor (TX3 k).2.2.1 = some (tyX3 k) := by decide +kernel
abbrev cX3_init : ByteArray := prog_5_method_1_code
def yX3_init : MethodName := ⟨RX3, "<init>", "()V"⟩
abbrev cX3_begin : ByteArray := prog_5_method_2_code
def yX3_begin : MethodName := ⟨RX3, "begin", "()V"⟩
abbrev cX3_hasWholeOrder : ByteArray := prog_5_method_3_code
def yX3_hasWholeOrder : MethodName := ⟨RX3, "hasWholeOrder", "()Z"⟩
abbrev cX3_takes : ByteArray := prog_5_method_4_code
def yX3_takes : MethodName := ⟨RX3, "takes", "(C)Z"⟩
abbrev cX3_takesCord : ByteArray := prog_5_method_5_code
def yX3_takesCord : MethodName := ⟨RX3, "takesCord", "(I)Z"⟩
abbrev cX3_takesKind : ByteArray := prog_5_method_6_code
def yX3_takesKind : MethodName := ⟨RX3, "takesKind", "(C)Z"⟩
abbrev cX3_takesValue : ByteArray := prog_5_method_7_code
def yX3_takesValue : MethodName := ⟨RX3, "takesValue", "(I)Z"⟩
abbrev cX3_mayBeginValue : ByteArray := prog_5_method_8_code
def yX3_mayBeginValue : MethodName := ⟨RX3, "mayBeginValue", "(I)Z"⟩
abbrev cX3_takesBetween : ByteArray := prog_5_method_9_code
def yX3_takesBetween : MethodName := ⟨RX3, "takesBetween", "()Z"⟩
abbrev cX3_takesDigit : ByteArray := prog_5_method_10_code
def yX3_takesDigit : MethodName := ⟨RX3, "takesDigit", "(I)Z"⟩
def RX4 : String := "HerdCords"
def TX4 : u_T := fun k => match k with
  | 0 => ("HerdCords", "herd", "LHerdCords$Herd;", true)
  | 1 => ("HerdCords", "history", "LHerdCords$History;", true)
  | 2 => ("HerdCords", "snapshots", "[LHerdCords$Herd;", true)
  | 3 => ("HerdCords", "buffer", "[C", true)
  | 4 => ("HerdCords", "length", "I", false)
  | 5 => ("HerdCords", "reader", "LHerdCords$OrderReader;", true)
  | 6 => ("HerdCords", "trial", "LHerdCords$Cord;", true)
  | _ => ("HerdCords", "told", "[I", true)
def tyX4 : Nat → FieldType := fun k => match k with
  | 0 => .object "HerdCords$Herd"
  | 1 => .object "HerdCords$History"
  | 2 => .array (.object "HerdCords$Herd")
  | 3 => .array .char
  | 4 => .int
  | 5 => .object "HerdCords$OrderReader"
  | 6 => .object "HerdCords$Cord"
  | _ => .array .int
abbrev wsX40 : List Cond := u_ws RX4 TX4 8
theorem nmX4 : ∀ a, a < 8 → ∀ b, b < 8 → a ≠ b → (TX4 a).2.1 ≠ (TX4 b).2.1 := by decide +kernel
theorem tyX4_ok : ∀ k, k < 8 → parseFieldDescriptor (TX4 k).2.2.1 = some (tyX4 k) := by decide +kernel
abbrev cX4_init : ByteArray := prog_1_method_1_code
def yX4_init : MethodName := ⟨RX4, "<init>", "()V"⟩
abbrev cX4_tie : ByteArray := prog_1_method_2_code
def yX4_tie : MethodName := ⟨RX4, "tie", "(II)I"⟩
abbrev cX4_add : ByteArray := prog_1_method_3_code
def yX4_add : MethodName := ⟨RX4, "add", "(II)I"⟩
abbrev cX4_slip : ByteArray := prog_1_method_4_code
def yX4_slip : MethodName := ⟨RX4, "slip", "(II)I"⟩
abbrev cX4_mend : ByteArray := prog_1_method_5_code
def yX4_mend : MethodName := ⟨RX4, "mend", "(I)I"⟩
abbrev cX4_renew : ByteArray := prog_1_method_6_code
def yX4_renew : MethodName := ⟨RX4, "renew", "(I)I"⟩
abbrev cX4_dye : ByteArray := prog_1_method_7_code
def yX4_dye : MethodName := ⟨RX4, "dye", "(II)I"⟩
abbrev cX4_set : ByteArray := prog_1_method_8_code
def yX4_set : MethodName := ⟨RX4, "set", "(I)I"⟩
abbrev cX4_append : ByteArray := prog_1_method_9_code
def yX4_append : MethodName := ⟨RX4, "append", "(I)I"⟩
abbrev cX4_clearBuffer : ByteArray := prog_1_method_10_code
def yX4_clearBuffer : MethodName := ⟨RX4, "clearBuffer", "()I"⟩
abbrev cX4_firstError : ByteArray := prog_1_method_11_code
def yX4_firstError : MethodName := ⟨RX4, "firstError", "()I"⟩
abbrev cX4_run : ByteArray := prog_1_method_12_code
def yX4_run : MethodName := ⟨RX4, "run", "()I"⟩
abbrev cX4_keep : ByteArray := prog_1_method_13_code
def yX4_keep : MethodName := ⟨RX4, "keep", "(I)I"⟩
abbrev cX4_goBack : ByteArray := prog_1_method_14_code
def yX4_goBack : MethodName := ⟨RX4, "goBack", "(I)I"⟩
abbrev cX4_undo : ByteArray := prog_1_method_15_code
def yX4_undo : MethodName := ⟨RX4, "undo", "()I"⟩
abbrev cX4_cordOf : ByteArray := prog_1_method_16_code
def yX4_cordOf : MethodName := ⟨RX4, "cordOf", "(II)I"⟩
abbrev cX4_placeOf : ByteArray := prog_1_method_17_code
def yX4_placeOf : MethodName := ⟨RX4, "placeOf", "(III)I"⟩
abbrev cX4_part : ByteArray := prog_1_method_18_code
def yX4_part : MethodName := ⟨RX4, "part", "(II)I"⟩
abbrev cX4_count : ByteArray := prog_1_method_19_code
def yX4_count : MethodName := ⟨RX4, "count", "(I)I"⟩
abbrev cX4_byHue : ByteArray := prog_1_method_20_code
def yX4_byHue : MethodName := ⟨RX4, "byHue", "(I)I"⟩
abbrev cX4_whyNot : ByteArray := prog_1_method_21_code
def yX4_whyNot : MethodName := ⟨RX4, "whyNot", "(II)I"⟩
abbrev cX4_howOften : ByteArray := prog_1_method_22_code
def yX4_howOften : MethodName := ⟨RX4, "howOften", "(II)I"⟩
abbrev cX4_cordsFor : ByteArray := prog_1_method_23_code
def yX4_cordsFor : MethodName := ⟨RX4, "cordsFor", "(II)I"⟩
abbrev cX4_fullest : ByteArray := prog_1_method_24_code
def yX4_fullest : MethodName := ⟨RX4, "fullest", "()I"⟩
abbrev cX4_closedShare : ByteArray := prog_1_method_25_code
def yX4_closedShare : MethodName := ⟨RX4, "closedShare", "()D"⟩
abbrev cX4_digest : ByteArray := prog_1_method_26_code
def yX4_digest : MethodName := ⟨RX4, "digest", "()J"⟩
abbrev cX4_cordAt : ByteArray := prog_1_method_27_code
def yX4_cordAt : MethodName := ⟨RX4, "cordAt", "(I)LHerdCords$Cord;"⟩
abbrev cX4_checkPlace : ByteArray := prog_1_method_28_code
def yX4_checkPlace : MethodName := ⟨RX4, "checkPlace", "(I)V"⟩
abbrev cX4_checkNumber : ByteArray := prog_1_method_29_code
def yX4_checkNumber : MethodName := ⟨RX4, "checkNumber", "(I)V"⟩
abbrev cX4_checkHue : ByteArray := prog_1_method_30_code
def yX4_checkHue : MethodName := ⟨RX4, "checkHue", "(I)V"⟩
abbrev cX4_checkSlot : ByteArray := prog_1_method_31_code
def yX4_checkSlot : MethodName := ⟨RX4, "checkSlot", "(I)V"⟩
abbrev cX4_readBuffer : ByteArray := prog_1_method_32_code
def yX4_readBuffer : MethodName := ⟨RX4, "readBuffer", "()I"⟩
abbrev cX4_doOrders : ByteArray := prog_1_method_33_code
def yX4_doOrders : MethodName := ⟨RX4, "doOrders", "()I"⟩
abbrev cX4_doOrderRead : ByteArray := prog_1_method_34_code
def yX4_doOrderRead : MethodName := ⟨RX4, "doOrderRead", "()Z"⟩
abbrev cX4_bestOfAllSets : ByteArray := prog_1_method_35_code
def yX4_bestOfAllSets : MethodName := ⟨RX4, "bestOfAllSets", "([II)I"⟩
abbrev cX4_toldBySet : ByteArray := prog_1_method_36_code
def yX4_toldBySet : MethodName := ⟨RX4, "toldBySet", "([II)I"⟩
abbrev cX4_bestByTrying : ByteArray := prog_1_method_37_code
def yX4_bestByTrying : MethodName := ⟨RX4, "bestByTrying", "([IIIII)I"⟩
abbrev cX4_better : ByteArray := prog_1_method_38_code
def yX4_better : MethodName := ⟨RX4, "better", "(II)I"⟩
abbrev cX4_mixCord : ByteArray := prog_1_method_39_code
def yX4_mixCord : MethodName := ⟨RX4, "mixCord", "(JI)J"⟩
abbrev cX4_mix : ByteArray := prog_1_method_40_code
def yX4_mix : MethodName := ⟨RX4, "mix", "(JJ)J"⟩
abbrev cX4_bitsOfShare : ByteArray := prog_1_method_41_code
def yX4_bitsOfShare : MethodName := ⟨RX4, "bitsOfShare", "(D)J"⟩
def RX5 : String := "HerdCordsModel"
def TX5 : u_T := fun k => match k with
  | 0 => ("HerdCordsModel", "thrown", "I", false)
  | 1 => ("HerdCordsModel", "s", "[I", true)
  | 2 => ("HerdCordsModel", "aside", "[I", true)
  | 3 => ("HerdCordsModel", "slots", "[I", true)
  | 4 => ("HerdCordsModel", "isKept", "[Z", true)
  | 5 => ("HerdCordsModel", "saved", "[I", true)
  | 6 => ("HerdCordsModel", "savedMany", "I", false)
  | 7 => ("HerdCordsModel", "text", "[I", true)
  | 8 => ("HerdCordsModel", "length", "I", false)
  | 9 => ("HerdCordsModel", "knots", "[I", true)
  | 10 => ("HerdCordsModel", "loops", "[I", true)
  | _ => ("HerdCordsModel", "digested", "J", false)
def tyX5 : Nat → FieldType := fun k => match k with
  | 0 => .int
  | 1 => .array .int
  | 2 => .array .int
  | 3 => .array .int
  | 4 => .array .boolean
  | 5 => .array .int
  | 6 => .int
  | 7 => .array .int
  | 8 => .int
  | 9 => .array .int
  | 10 => .array .int
  | _ => .long
abbrev wsX50 : List Cond := u_ws RX5 TX5 12
theorem nmX5 : ∀ a, a < 12 → ∀ b, b < 12 → a ≠ b → (TX5 a).2.1 ≠ (TX5 b).2.1 := by decide +kernel
theorem tyX5_ok : ∀ k, k < 12 → parseFieldDescriptor (TX5 k).2.2.1 = some (tyX5 k) := by decide +kernel
abbrev cX5_init : ByteArray := prog_7_method_1_code
def yX5_init : MethodName := ⟨RX5, "<init>", "()V"⟩
abbrev cX5_thrown : ByteArray := prog_7_method_2_code
def yX5_thrown : MethodName := ⟨RX5, "thrown", "()I"⟩
abbrev cX5_in : ByteArray := prog_7_method_3_code
def yX5_in : MethodName := ⟨RX5, "in", "(III)Z"⟩
abbrev cX5_isCord : ByteArray := prog_7_method_4_code
def yX5_isCord : MethodName := ⟨RX5, "isCord", "(I)Z"⟩
abbrev cX5_holds : ByteArray := prog_7_method_5_code
def yX5_holds : MethodName := ⟨RX5, "holds", "(I)Z"⟩
abbrev cX5_at : ByteArray := prog_7_method_6_code
def yX5_at : MethodName := ⟨RX5, "at", "(II)I"⟩
abbrev cX5_of : ByteArray := prog_7_method_7_code
def yX5_of : MethodName := ⟨RX5, "of", "(II)I"⟩
abbrev cX5_save : ByteArray := prog_7_method_8_code
def yX5_save : MethodName := ⟨RX5, "save", "()V"⟩
abbrev cX5_putAside : ByteArray := prog_7_method_9_code
def yX5_putAside : MethodName := ⟨RX5, "putAside", "()V"⟩
abbrev cX5_putBack : ByteArray := prog_7_method_10_code
def yX5_putBack : MethodName := ⟨RX5, "putBack", "()V"⟩
abbrev cX5_open : ByteArray := prog_7_method_11_code
def yX5_open : MethodName := ⟨RX5, "open", "(II)I"⟩
abbrev cX5_told : ByteArray := prog_7_method_12_code
def yX5_told : MethodName := ⟨RX5, "told", "(I)I"⟩
abbrev cX5_partsTold : ByteArray := prog_7_method_13_code
def yX5_partsTold : MethodName := ⟨RX5, "partsTold", "(I)I"⟩
abbrev cX5_lacks : ByteArray := prog_7_method_14_code
def yX5_lacks : MethodName := ⟨RX5, "lacks", "(I)I"⟩
abbrev cX5_ties : ByteArray := prog_7_method_15_code
def yX5_ties : MethodName := ⟨RX5, "ties", "(I)I"⟩
abbrev cX5_allTies : ByteArray := prog_7_method_16_code
def yX5_allTies : MethodName := ⟨RX5, "allTies", "()I"⟩
abbrev cX5_lays : ByteArray := prog_7_method_17_code
def yX5_lays : MethodName := ⟨RX5, "lays", "(II)I"⟩
abbrev cX5_knits : ByteArray := prog_7_method_18_code
def yX5_knits : MethodName := ⟨RX5, "knits", "(I)I"⟩
abbrev cX5_reasonFor : ByteArray := prog_7_method_19_code
def yX5_reasonFor : MethodName := ⟨RX5, "reasonFor", "(II)I"⟩
abbrev cX5_tiesPart : ByteArray := prog_7_method_20_code
def yX5_tiesPart : MethodName := ⟨RX5, "tiesPart", "(II)I"⟩
abbrev cX5_adds : ByteArray := prog_7_method_21_code
def yX5_adds : MethodName := ⟨RX5, "adds", "(II)I"⟩
abbrev cX5_slips : ByteArray := prog_7_method_22_code
def yX5_slips : MethodName := ⟨RX5, "slips", "(II)I"⟩
abbrev cX5_mends : ByteArray := prog_7_method_23_code
def yX5_mends : MethodName := ⟨RX5, "mends", "(I)I"⟩
abbrev cX5_tie : ByteArray := prog_7_method_24_code
def yX5_tie : MethodName := ⟨RX5, "tie", "(II)I"⟩
abbrev cX5_add : ByteArray := prog_7_method_25_code
def yX5_add : MethodName := ⟨RX5, "add", "(II)I"⟩
abbrev cX5_slip : ByteArray := prog_7_method_26_code
def yX5_slip : MethodName := ⟨RX5, "slip", "(II)I"⟩
abbrev cX5_mend : ByteArray := prog_7_method_27_code
def yX5_mend : MethodName := ⟨RX5, "mend", "(I)I"⟩
abbrev cX5_renew : ByteArray := prog_7_method_28_code
def yX5_renew : MethodName := ⟨RX5, "renew", "(I)I"⟩
abbrev cX5_puts : ByteArray := prog_7_method_29_code
def yX5_puts : MethodName := ⟨RX5, "puts", "(II)I"⟩
abbrev cX5_dye : ByteArray := prog_7_method_30_code
def yX5_dye : MethodName := ⟨RX5, "dye", "(II)I"⟩
abbrev cX5_set : ByteArray := prog_7_method_31_code
def yX5_set : MethodName := ⟨RX5, "set", "(I)I"⟩
abbrev cX5_append : ByteArray := prog_7_method_32_code
def yX5_append : MethodName := ⟨RX5, "append", "(I)I"⟩
abbrev cX5_clearBuffer : ByteArray := prog_7_method_33_code
def yX5_clearBuffer : MethodName := ⟨RX5, "clearBuffer", "()I"⟩
abbrev cX5_charAt : ByteArray := prog_7_method_34_code
def yX5_charAt : MethodName := ⟨RX5, "charAt", "(I)I"⟩
abbrev cX5_digitAt : ByteArray := prog_7_method_35_code
def yX5_digitAt : MethodName := ⟨RX5, "digitAt", "(I)I"⟩
abbrev cX5_behindNumber : ByteArray := prog_7_method_36_code
def yX5_behindNumber : MethodName := ⟨RX5, "behindNumber", "(I)I"⟩
abbrev cX5_behindOrder : ByteArray := prog_7_method_37_code
def yX5_behindOrder : MethodName := ⟨RX5, "behindOrder", "(I)I"⟩
abbrev cX5_wrong : ByteArray := prog_7_method_38_code
def yX5_wrong : MethodName := ⟨RX5, "wrong", "()I"⟩
abbrev cX5_firstError : ByteArray := prog_7_method_39_code
def yX5_firstError : MethodName := ⟨RX5, "firstError", "()I"⟩
abbrev cX5_does : ByteArray := prog_7_method_40_code
def yX5_does : MethodName := ⟨RX5, "does", "(II)Z"⟩
abbrev cX5_run : ByteArray := prog_7_method_41_code
def yX5_run : MethodName := ⟨RX5, "run", "()I"⟩
abbrev cX5_keep : ByteArray := prog_7_method_42_code
def yX5_keep : MethodName := ⟨RX5, "keep", "(I)I"⟩
abbrev cX5_goBack : ByteArray := prog_7_method_43_code
def yX5_goBack : MethodName := ⟨RX5, "goBack", "(I)I"⟩
abbrev cX5_undo : ByteArray := prog_7_method_44_code
def yX5_undo : MethodName := ⟨RX5, "undo", "()I"⟩
abbrev cX5_loopsOf : ByteArray := prog_7_method_45_code
def yX5_loopsOf : MethodName := ⟨RX5, "loopsOf", "(I)I"⟩
abbrev cX5_number : ByteArray := prog_7_method_46_code
def yX5_number : MethodName := ⟨RX5, "number", "(II)I"⟩
abbrev cX5_cordOf : ByteArray := prog_7_method_47_code
def yX5_cordOf : MethodName := ⟨RX5, "cordOf", "(II)I"⟩
abbrev cX5_atPlace : ByteArray := prog_7_method_48_code
def yX5_atPlace : MethodName := ⟨RX5, "atPlace", "(III)I"⟩
abbrev cX5_placeOf : ByteArray := prog_7_method_49_code
def yX5_placeOf : MethodName := ⟨RX5, "placeOf", "(III)I"⟩
abbrev cX5_part : ByteArray := prog_7_method_50_code
def yX5_part : MethodName := ⟨RX5, "part", "(II)I"⟩
abbrev cX5_sumOf : ByteArray := prog_7_method_51_code
def yX5_sumOf : MethodName := ⟨RX5, "sumOf", "(I)I"⟩
abbrev cX5_counted : ByteArray := prog_7_method_52_code
def yX5_counted : MethodName := ⟨RX5, "counted", "(I)I"⟩
abbrev cX5_count : ByteArray := prog_7_method_53_code
def yX5_count : MethodName := ⟨RX5, "count", "(I)I"⟩
abbrev cX5_ofHue : ByteArray := prog_7_method_54_code
def yX5_ofHue : MethodName := ⟨RX5, "ofHue", "(I)I"⟩
abbrev cX5_byHue : ByteArray := prog_7_method_55_code
def yX5_byHue : MethodName := ⟨RX5, "byHue", "(I)I"⟩
abbrev cX5_whyNot : ByteArray := prog_7_method_56_code
def yX5_whyNot : MethodName := ⟨RX5, "whyNot", "(II)I"⟩
abbrev cX5_times : ByteArray := prog_7_method_57_code
def yX5_times : MethodName := ⟨RX5, "times", "(II)I"⟩
abbrev cX5_howOften : ByteArray := prog_7_method_58_code
def yX5_howOften : MethodName := ⟨RX5, "howOften", "(II)I"⟩
abbrev cX5_many : ByteArray := prog_7_method_59_code
def yX5_many : MethodName := ⟨RX5, "many", "(I)I"⟩
abbrev cX5_toldBy : ByteArray := prog_7_method_60_code
def yX5_toldBy : MethodName := ⟨RX5, "toldBy", "(I)I"⟩
abbrev cX5_setFor : ByteArray := prog_7_method_61_code
def yX5_setFor : MethodName := ⟨RX5, "setFor", "(I)I"⟩
abbrev cX5_cordsFor : ByteArray := prog_7_method_62_code
def yX5_cordsFor : MethodName := ⟨RX5, "cordsFor", "(II)I"⟩
abbrev cX5_fullestOne : ByteArray := prog_7_method_63_code
def yX5_fullestOne : MethodName := ⟨RX5, "fullestOne", "()I"⟩
abbrev cX5_fullest : ByteArray := prog_7_method_64_code
def yX5_fullest : MethodName := ⟨RX5, "fullest", "()I"⟩
abbrev cX5_share : ByteArray := prog_7_method_65_code
def yX5_share : MethodName := ⟨RX5, "share", "()D"⟩
abbrev cX5_closedShare : ByteArray := prog_7_method_66_code
def yX5_closedShare : MethodName := ⟨RX5, "closedShare", "()D"⟩
abbrev cX5_bitsOf : ByteArray := prog_7_method_67_code
def yX5_bitsOf : MethodName := ⟨RX5, "bitsOf", "(D)J"⟩
abbrev cX5_digestOne : ByteArray := prog_7_method_68_code
def yX5_digestOne : MethodName := ⟨RX5, "digestOne", "(J)V"⟩
abbrev cX5_digestCord : ByteArray := prog_7_method_69_code
def yX5_digestCord : MethodName := ⟨RX5, "digestCord", "(I)V"⟩
abbrev cX5_digest : ByteArray := prog_7_method_70_code
def yX5_digest : MethodName := ⟨RX5, "digest", "()J"⟩
def RJ6 : String := "java/lang/Integer"
def TJ6 : u_T := fun k => match k with
  | _ => ("", "", "", false)
def tyJ6 : Nat → FieldType := fun k => match k with
  | _ => .int
abbrev wsJ60 : List Cond := u_ws RJ6 TJ6 0
theorem nmJ6 : ∀ a, a < 0 → ∀ b, b < 0 → a ≠ b → (TJ6 a).2.1 ≠ (TJ6 b).2.1 := by decide +kernel
theorem tyJ6_ok : ∀ k, k < 0 → parseFieldDescriptor (TJ6 k).2.2.1 = some (tyJ6 k) := by decide +kernel
abbrev cJ6_compare_7cf53 : ByteArray := prog_12_method_40_code
def yJ6_compare_7cf53 : MethodName := ⟨RJ6, "compare", "(II)I"⟩
abbrev cJ6_bitCount_0f7a4 : ByteArray := prog_12_method_49_code
def yJ6_bitCount_0f7a4 : MethodName := ⟨RJ6, "bitCount", "(I)I"⟩
def RJ9 : String := "java/lang/Math"
def TJ9 : u_T := fun k => match k with
  | _ => ("", "", "", false)
def tyJ9 : Nat → FieldType := fun k => match k with
  | _ => .int
abbrev wsJ90 : List Cond := u_ws RJ9 TJ9 0
theorem nmJ9 : ∀ a, a < 0 → ∀ b, b < 0 → a ≠ b → (TJ9 a).2.1 ≠ (TJ9 b).2.1 := by decide +kernel
theorem tyJ9_ok : ∀ k, k < 0 → parseFieldDescriptor (TJ9 k).2.2.1 = some (tyJ9 k) := by decide +kernel
abbrev cJ9_max_7cf53 : ByteArray := prog_13_method_65_code
def yJ9_max_7cf53 : MethodName := ⟨RJ9, "max", "(II)I"⟩
abbrev cJ9_min_7cf53 : ByteArray := prog_13_method_69_code
def yJ9_min_7cf53 : MethodName := ⟨RJ9, "min", "(II)I"⟩
def RJ0 : String := "java/lang/String"
def TJ0 : u_T := fun k => match k with
  | _ => ("", "", "", false)
def tyJ0 : Nat → FieldType := fun k => match k with
  | _ => .int
abbrev wsJ00 : List Cond := u_ws RJ0 TJ0 0
theorem nmJ0 : ∀ a, a < 0 → ∀ b, b < 0 → a ≠ b → (TJ0 a).2.1 ≠ (TJ0 b).2.1 := by decide +kernel
theorem tyJ0_ok : ∀ k, k < 0 → parseFieldDescriptor (TJ0 k).2.2.1 = some (tyJ0 k) := by decide +kernel
def RJ10 : String := "java/lang/System"
def TJ10 : u_T := fun k => match k with
  | _ => ("", "", "", false)
def tyJ10 : Nat → FieldType := fun k => match k with
  | _ => .int
abbrev wsJ100 : List Cond := u_ws RJ10 TJ10 0
theorem nmJ10 : ∀ a, a < 0 → ∀ b, b < 0 → a ≠ b → (TJ10 a).2.1 ≠ (TJ10 b).2.1 := by decide +kernel
theorem tyJ10_ok : ∀ k, k < 0 → parseFieldDescriptor (TJ10 k).2.2.1 = some (tyJ10 k) := by decide +kernel
def RL : String := "HerdCordsLaw"
abbrev cL_tie : ByteArray := method_3_code
def yL_tie : MethodName := ⟨RL, "tie", "(LHerdCords;II[J)I"⟩
abbrev cL_add : ByteArray := method_4_code
def yL_add : MethodName := ⟨RL, "add", "(LHerdCords;II[J)I"⟩
abbrev cL_slip : ByteArray := method_5_code
def yL_slip : MethodName := ⟨RL, "slip", "(LHerdCords;II[J)I"⟩
abbrev cL_mend : ByteArray := method_6_code
def yL_mend : MethodName := ⟨RL, "mend", "(LHerdCords;I[J)I"⟩
abbrev cL_renew : ByteArray := method_7_code
def yL_renew : MethodName := ⟨RL, "renew", "(LHerdCords;I[J)I"⟩
abbrev cL_dye : ByteArray := method_8_code
def yL_dye : MethodName := ⟨RL, "dye", "(LHerdCords;II[J)I"⟩
abbrev cL_set : ByteArray := method_9_code
def yL_set : MethodName := ⟨RL, "set", "(LHerdCords;I[J)I"⟩
abbrev cL_append : ByteArray := method_10_code
def yL_append : MethodName := ⟨RL, "append", "(LHerdCords;I[J)I"⟩
abbrev cL_run : ByteArray := method_11_code
def yL_run : MethodName := ⟨RL, "run", "(LHerdCords;[J)I"⟩
abbrev cL_keep : ByteArray := method_12_code
def yL_keep : MethodName := ⟨RL, "keep", "(LHerdCords;I[J)I"⟩
abbrev cL_goBack : ByteArray := method_13_code
def yL_goBack : MethodName := ⟨RL, "goBack", "(LHerdCords;I[J)I"⟩
abbrev cL_undo : ByteArray := method_14_code
def yL_undo : MethodName := ⟨RL, "undo", "(LHerdCords;[J)I"⟩
abbrev cL_cordOf : ByteArray := method_15_code
def yL_cordOf : MethodName := ⟨RL, "cordOf", "(LHerdCords;II[J)I"⟩
abbrev cL_placeOf : ByteArray := method_16_code
def yL_placeOf : MethodName := ⟨RL, "placeOf", "(LHerdCords;III[J)I"⟩
abbrev cL_part : ByteArray := method_17_code
def yL_part : MethodName := ⟨RL, "part", "(LHerdCords;II[J)I"⟩
abbrev cL_count : ByteArray := method_18_code
def yL_count : MethodName := ⟨RL, "count", "(LHerdCords;I[J)I"⟩
abbrev cL_byHue : ByteArray := method_19_code
def yL_byHue : MethodName := ⟨RL, "byHue", "(LHerdCords;I[J)I"⟩
abbrev cL_whyNot : ByteArray := method_20_code
def yL_whyNot : MethodName := ⟨RL, "whyNot", "(LHerdCords;II[J)I"⟩
abbrev cL_howOften : ByteArray := method_21_code
def yL_howOften : MethodName := ⟨RL, "howOften", "(LHerdCords;II[J)I"⟩
abbrev cL_cordsFor : ByteArray := method_22_code
def yL_cordsFor : MethodName := ⟨RL, "cordsFor", "(LHerdCords;II[J)I"⟩
abbrev cL_law : ByteArray := code
def yL_law : MethodName := ⟨RL, "law", "([I)Z"⟩
abbrev vwCl : List vw_C := [(RX0, TX0, 6), (RX1, TX1, 7), (RX2, TX2, 3), (RX3, TX3, 5), (RX4, TX4, 8), (RX5, TX5, 12)]
/-- the words that a call may carry: one list for all methods -/
def zW : List Cond := lw_tbl.filter goodWord
theorem zw_mem {w : Cond} (i : Nat) (h : lw_tbl[i]? = some w) (g : goodWord w = true) : w ∈ zW := List.mem_filter.mpr ⟨List.mem_of_getElem? h, g⟩
theorem zW_good : GoodIn zW zW := fun w h => ⟨h, good_of_word (List.mem_filter.mp h).2⟩
theorem zW_tbl : ∀ w ∈ zW, w ∈ lw_tbl := fun w h => (List.mem_filter.mp h).1
/-- a method's words: its code first -/
def zs (y : MethodName) (c : ByteArray) (n : Nat) (r : Option FieldType) : List Cond := Cond.code y c n r :: zW
theorem zs_good {y : MethodName} {c : ByteArray} {n : Nat} {r : Option FieldType} (h : Cond.code y c n r ∈ zW) : GoodIn zW (zs y c n r) := fun w hw => (List.mem_cons.mp hw).elim (fun e => by rw [e]; exact zW_good _ h) (zW_good w)
def zsH (y : MethodName) (c : ByteArray) (n : Nat) (r : Option FieldType) (hh : List (Nat × Nat × Nat × Nat)) : List Cond := Cond.codeWith y c n r hh :: zW
theorem zsH_good {y : MethodName} {c : ByteArray} {n : Nat} {r : Option FieldType} {hh : List (Nat × Nat × Nat × Nat)} (h : Cond.codeWith y c n r hh ∈ zW) : GoodIn zW (zsH y c n r hh) := fun w hw => (List.mem_cons.mp hw).elim (fun e => by rw [e]; exact zW_good _ h) (zW_good w)
theorem q0 : Cond.selects "HerdCords" ⟨"HerdCords", "readBuffer", "()I"⟩ ⟨"HerdCords", "readBuffer", "()I"⟩ ∈ zW := zw_mem 0 (by decide +kernel) (by decide +kernel)
theorem q1 : Cond.selects "HerdCords$OrderReader" ⟨"HerdCords$OrderReader", "takesCord", "(I)Z"⟩ ⟨"HerdCords$OrderReader", "takesCord", "(I)Z"⟩ ∈ zW := zw_mem 1 (by decide +kernel) (by decide +kernel)
theorem q2 : Cond.selects "HerdCords$OrderReader" ⟨"HerdCords$OrderReader", "takesKind", "(C)Z"⟩ ⟨"HerdCords$OrderReader", "takesKind", "(C)Z"⟩ ∈ zW := zw_mem 2 (by decide +kernel) (by decide +kernel)
theorem q3 : Cond.selects "HerdCords$OrderReader" ⟨"HerdCords$OrderReader", "takesValue", "(I)Z"⟩ ⟨"HerdCords$OrderReader", "takesValue", "(I)Z"⟩ ∈ zW := zw_mem 3 (by decide +kernel) (by decide +kernel)
theorem q4 : Cond.selects "HerdCords$OrderReader" ⟨"HerdCords$OrderReader", "mayBeginValue", "(I)Z"⟩ ⟨"HerdCords$OrderReader", "mayBeginValue", "(I)Z"⟩ ∈ zW := zw_mem 4 (by decide +kernel) (by decide +kernel)
theorem q5 : Cond.selects "HerdCords$OrderReader" ⟨"HerdCords$OrderReader", "takesBetween", "()Z"⟩ ⟨"HerdCords$OrderReader", "takesBetween", "()Z"⟩ ∈ zW := zw_mem 5 (by decide +kernel) (by decide +kernel)
theorem q6 : Cond.selects "HerdCords$OrderReader" ⟨"HerdCords$OrderReader", "takesDigit", "(I)Z"⟩ ⟨"HerdCords$OrderReader", "takesDigit", "(I)Z"⟩ ∈ zW := zw_mem 6 (by decide +kernel) (by decide +kernel)
theorem q8 : Cond.selects "HerdCords" ⟨"HerdCords", "mixCord", "(JI)J"⟩ ⟨"HerdCords", "mixCord", "(JI)J"⟩ ∈ zW := zw_mem 8 (by decide +kernel) (by decide +kernel)
theorem q9 : Cond.selects "HerdCords" ⟨"HerdCords", "cordAt", "(I)LHerdCords$Cord;"⟩ ⟨"HerdCords", "cordAt", "(I)LHerdCords$Cord;"⟩ ∈ zW := zw_mem 9 (by decide +kernel) (by decide +kernel)
theorem q10 : Cond.selects "HerdCords$Cord" ⟨"HerdCords$Cord", "loopsFor", "(II)I"⟩ ⟨"HerdCords$Cord", "loopsFor", "(II)I"⟩ ∈ zW := zw_mem 10 (by decide +kernel) (by decide +kernel)
theorem q11 : Cond.selects "HerdCords$Herd" ⟨"HerdCords$Herd", "countTied", "(LHerdCords$Cord;II)I"⟩ ⟨"HerdCords$Herd", "countTied", "(LHerdCords$Cord;II)I"⟩ ∈ zW := zw_mem 11 (by decide +kernel) (by decide +kernel)
theorem q12 : Cond.selects "HerdCords" ⟨"HerdCords", "doOrders", "()I"⟩ ⟨"HerdCords", "doOrders", "()I"⟩ ∈ zW := zw_mem 12 (by decide +kernel) (by decide +kernel)
theorem q13 : Cond.selects "HerdCords" ⟨"HerdCords", "doOrderRead", "()Z"⟩ ⟨"HerdCords", "doOrderRead", "()Z"⟩ ∈ zW := zw_mem 13 (by decide +kernel) (by decide +kernel)
theorem q14 : Cond.selects "HerdCordsModel" ⟨"HerdCordsModel", "holds", "(I)Z"⟩ ⟨"HerdCordsModel", "holds", "(I)Z"⟩ ∈ zW := zw_mem 14 (by decide +kernel) (by decide +kernel)
theorem q15 : Cond.selects "HerdCordsModel" ⟨"HerdCordsModel", "save", "()V"⟩ ⟨"HerdCordsModel", "save", "()V"⟩ ∈ zW := zw_mem 15 (by decide +kernel) (by decide +kernel)
theorem q16 : Cond.selects "HerdCordsModel" ⟨"HerdCordsModel", "tiesPart", "(II)I"⟩ ⟨"HerdCordsModel", "tiesPart", "(II)I"⟩ ∈ zW := zw_mem 16 (by decide +kernel) (by decide +kernel)
theorem q17 : Cond.selects "HerdCordsModel" ⟨"HerdCordsModel", "reasonFor", "(II)I"⟩ ⟨"HerdCordsModel", "reasonFor", "(II)I"⟩ ∈ zW := zw_mem 17 (by decide +kernel) (by decide +kernel)
theorem q18 : Cond.selects "HerdCordsModel" ⟨"HerdCordsModel", "of", "(II)I"⟩ ⟨"HerdCordsModel", "of", "(II)I"⟩ ∈ zW := zw_mem 18 (by decide +kernel) (by decide +kernel)
theorem q19 : Cond.selects "HerdCordsModel" ⟨"HerdCordsModel", "lays", "(II)I"⟩ ⟨"HerdCordsModel", "lays", "(II)I"⟩ ∈ zW := zw_mem 19 (by decide +kernel) (by decide +kernel)
theorem q20 : Cond.selects "HerdCordsModel" ⟨"HerdCordsModel", "told", "(I)I"⟩ ⟨"HerdCordsModel", "told", "(I)I"⟩ ∈ zW := zw_mem 20 (by decide +kernel) (by decide +kernel)
theorem q21 : Cond.selects "HerdCordsModel" ⟨"HerdCordsModel", "open", "(II)I"⟩ ⟨"HerdCordsModel", "open", "(II)I"⟩ ∈ zW := zw_mem 21 (by decide +kernel) (by decide +kernel)
theorem q22 : Cond.selects "HerdCordsModel" ⟨"HerdCordsModel", "knits", "(I)I"⟩ ⟨"HerdCordsModel", "knits", "(I)I"⟩ ∈ zW := zw_mem 22 (by decide +kernel) (by decide +kernel)
theorem q23 : Cond.selects "HerdCordsModel" ⟨"HerdCordsModel", "adds", "(II)I"⟩ ⟨"HerdCordsModel", "adds", "(II)I"⟩ ∈ zW := zw_mem 23 (by decide +kernel) (by decide +kernel)
theorem q24 : Cond.selects "HerdCordsModel" ⟨"HerdCordsModel", "slips", "(II)I"⟩ ⟨"HerdCordsModel", "slips", "(II)I"⟩ ∈ zW := zw_mem 24 (by decide +kernel) (by decide +kernel)
theorem q25 : Cond.selects "HerdCordsModel" ⟨"HerdCordsModel", "mends", "(I)I"⟩ ⟨"HerdCordsModel", "mends", "(I)I"⟩ ∈ zW := zw_mem 25 (by decide +kernel) (by decide +kernel)
theorem q26 : Cond.selects "HerdCordsModel" ⟨"HerdCordsModel", "lacks", "(I)I"⟩ ⟨"HerdCordsModel", "lacks", "(I)I"⟩ ∈ zW := zw_mem 26 (by decide +kernel) (by decide +kernel)
theorem q27 : Cond.selects "HerdCordsModel" ⟨"HerdCordsModel", "partsTold", "(I)I"⟩ ⟨"HerdCordsModel", "partsTold", "(I)I"⟩ ∈ zW := zw_mem 27 (by decide +kernel) (by decide +kernel)
theorem q28 : Cond.selects "HerdCordsModel" ⟨"HerdCordsModel", "ties", "(I)I"⟩ ⟨"HerdCordsModel", "ties", "(I)I"⟩ ∈ zW := zw_mem 28 (by decide +kernel) (by decide +kernel)
theorem q29 : Cond.selects "HerdCordsModel" ⟨"HerdCordsModel", "puts", "(II)I"⟩ ⟨"HerdCordsModel", "puts", "(II)I"⟩ ∈ zW := zw_mem 29 (by decide +kernel) (by decide +kernel)
theorem q30 : Cond.selects "HerdCordsModel" ⟨"HerdCordsModel", "wrong", "()I"⟩ ⟨"HerdCordsModel", "wrong", "()I"⟩ ∈ zW := zw_mem 30 (by decide +kernel) (by decide +kernel)
theorem q31 : Cond.selects "HerdCordsModel" ⟨"HerdCordsModel", "behindOrder", "(I)I"⟩ ⟨"HerdCordsModel", "behindOrder", "(I)I"⟩ ∈ zW := zw_mem 31 (by decide +kernel) (by decide +kernel)
theorem q32 : Cond.selects "HerdCordsModel" ⟨"HerdCordsModel", "digitAt", "(I)I"⟩ ⟨"HerdCordsModel", "digitAt", "(I)I"⟩ ∈ zW := zw_mem 32 (by decide +kernel) (by decide +kernel)
theorem q33 : Cond.selects "HerdCordsModel" ⟨"HerdCordsModel", "charAt", "(I)I"⟩ ⟨"HerdCordsModel", "charAt", "(I)I"⟩ ∈ zW := zw_mem 33 (by decide +kernel) (by decide +kernel)
theorem q34 : Cond.selects "HerdCordsModel" ⟨"HerdCordsModel", "behindNumber", "(I)I"⟩ ⟨"HerdCordsModel", "behindNumber", "(I)I"⟩ ∈ zW := zw_mem 34 (by decide +kernel) (by decide +kernel)
theorem q35 : Cond.selects "HerdCordsModel" ⟨"HerdCordsModel", "does", "(II)Z"⟩ ⟨"HerdCordsModel", "does", "(II)Z"⟩ ∈ zW := zw_mem 35 (by decide +kernel) (by decide +kernel)
theorem q36 : Cond.selects "HerdCordsModel" ⟨"HerdCordsModel", "allTies", "()I"⟩ ⟨"HerdCordsModel", "allTies", "()I"⟩ ∈ zW := zw_mem 36 (by decide +kernel) (by decide +kernel)
theorem q37 : Cond.selects "HerdCordsModel" ⟨"HerdCordsModel", "number", "(II)I"⟩ ⟨"HerdCordsModel", "number", "(II)I"⟩ ∈ zW := zw_mem 37 (by decide +kernel) (by decide +kernel)
theorem q38 : Cond.selects "HerdCordsModel" ⟨"HerdCordsModel", "loopsOf", "(I)I"⟩ ⟨"HerdCordsModel", "loopsOf", "(I)I"⟩ ∈ zW := zw_mem 38 (by decide +kernel) (by decide +kernel)
theorem q39 : Cond.selects "HerdCordsModel" ⟨"HerdCordsModel", "atPlace", "(III)I"⟩ ⟨"HerdCordsModel", "atPlace", "(III)I"⟩ ∈ zW := zw_mem 39 (by decide +kernel) (by decide +kernel)
theorem q40 : Cond.selects "HerdCordsModel" ⟨"HerdCordsModel", "counted", "(I)I"⟩ ⟨"HerdCordsModel", "counted", "(I)I"⟩ ∈ zW := zw_mem 40 (by decide +kernel) (by decide +kernel)
theorem q41 : Cond.selects "HerdCordsModel" ⟨"HerdCordsModel", "sumOf", "(I)I"⟩ ⟨"HerdCordsModel", "sumOf", "(I)I"⟩ ∈ zW := zw_mem 41 (by decide +kernel) (by decide +kernel)
theorem q42 : Cond.selects "HerdCordsModel" ⟨"HerdCordsModel", "ofHue", "(I)I"⟩ ⟨"HerdCordsModel", "ofHue", "(I)I"⟩ ∈ zW := zw_mem 42 (by decide +kernel) (by decide +kernel)
theorem q43 : Cond.selects "HerdCordsModel" ⟨"HerdCordsModel", "times", "(II)I"⟩ ⟨"HerdCordsModel", "times", "(II)I"⟩ ∈ zW := zw_mem 43 (by decide +kernel) (by decide +kernel)
theorem q44 : Cond.selects "HerdCordsModel" ⟨"HerdCordsModel", "putAside", "()V"⟩ ⟨"HerdCordsModel", "putAside", "()V"⟩ ∈ zW := zw_mem 44 (by decide +kernel) (by decide +kernel)
theorem q45 : Cond.selects "HerdCordsModel" ⟨"HerdCordsModel", "putBack", "()V"⟩ ⟨"HerdCordsModel", "putBack", "()V"⟩ ∈ zW := zw_mem 45 (by decide +kernel) (by decide +kernel)
theorem q46 : Cond.selects "HerdCordsModel" ⟨"HerdCordsModel", "setFor", "(I)I"⟩ ⟨"HerdCordsModel", "setFor", "(I)I"⟩ ∈ zW := zw_mem 46 (by decide +kernel) (by decide +kernel)
theorem q47 : Cond.selects "HerdCordsModel" ⟨"HerdCordsModel", "toldBy", "(I)I"⟩ ⟨"HerdCordsModel", "toldBy", "(I)I"⟩ ∈ zW := zw_mem 47 (by decide +kernel) (by decide +kernel)
theorem q48 : Cond.selects "HerdCordsModel" ⟨"HerdCordsModel", "fullestOne", "()I"⟩ ⟨"HerdCordsModel", "fullestOne", "()I"⟩ ∈ zW := zw_mem 48 (by decide +kernel) (by decide +kernel)
theorem q49 : Cond.selects "HerdCordsModel" ⟨"HerdCordsModel", "share", "()D"⟩ ⟨"HerdCordsModel", "share", "()D"⟩ ∈ zW := zw_mem 49 (by decide +kernel) (by decide +kernel)
theorem q50 : Cond.selects "HerdCordsModel" ⟨"HerdCordsModel", "digestOne", "(J)V"⟩ ⟨"HerdCordsModel", "digestOne", "(J)V"⟩ ∈ zW := zw_mem 50 (by decide +kernel) (by decide +kernel)
theorem q51 : Cond.selects "HerdCordsModel" ⟨"HerdCordsModel", "digestCord", "(I)V"⟩ ⟨"HerdCordsModel", "digestCord", "(I)V"⟩ ∈ zW := zw_mem 51 (by decide +kernel) (by decide +kernel)
theorem q52 : Cond.initialized "HerdCordsLaw" ∈ zW := zw_mem 52 (by decide +kernel) (by decide +kernel)
theorem q53 : Cond.initialized "HerdCords" ∈ zW := zw_mem 53 (by decide +kernel) (by decide +kernel)
theorem q54 : Cond.initialized "HerdCords$Herd" ∈ zW := zw_mem 54 (by decide +kernel) (by decide +kernel)
theorem q55 : Cond.initialized "HerdCords$Cord" ∈ zW := zw_mem 55 (by decide +kernel) (by decide +kernel)
theorem q56 : Cond.initialized "HerdCords$History" ∈ zW := zw_mem 56 (by decide +kernel) (by decide +kernel)
theorem q57 : Cond.initialized "HerdCords$OrderReader" ∈ zW := zw_mem 57 (by decide +kernel) (by decide +kernel)
theorem q58 : Cond.initialized "HerdCordsModel" ∈ zW := zw_mem 58 (by decide +kernel) (by decide +kernel)
theorem q62 : Cond.initialized "java/lang/IndexOutOfBoundsException" ∈ zW := zw_mem 62 (by decide +kernel) (by decide +kernel)
theorem q63 : Cond.initialized "java/lang/IllegalArgumentException" ∈ zW := zw_mem 63 (by decide +kernel) (by decide +kernel)
theorem q64 : Cond.initialized "java/lang/System" ∈ zW := zw_mem 64 (by decide +kernel) (by decide +kernel)
theorem q65 : Cond.initialized "java/lang/Math" ∈ zW := zw_mem 65 (by decide +kernel) (by decide +kernel)
theorem q66 : Cond.initialized "java/lang/IllegalStateException" ∈ zW := zw_mem 66 (by decide +kernel) (by decide +kernel)
theorem q67 : Cond.initialized "java/lang/Integer" ∈ zW := zw_mem 67 (by decide +kernel) (by decide +kernel)
theorem q68 : Cond.classLink "HerdCordsLaw" 8 "HerdCords" ∈ zW := zw_mem 68 (by decide +kernel) (by decide +kernel)
theorem q69 : Cond.instantiable "HerdCords" 8 ∈ zW := zw_mem 69 (by decide +kernel) (by decide +kernel)
theorem q70 : Cond.methodLink "HerdCordsLaw" 79 ⟨"HerdCords", "<init>", "()V"⟩ ∈ zW := zw_mem 70 (by decide +kernel) (by decide +kernel)
theorem q71 : Cond.instanceMethod ⟨"HerdCords", "<init>", "()V"⟩ ∈ zW := zw_mem 71 (by decide +kernel) (by decide +kernel)
theorem q72 : Cond.code ⟨"HerdCords", "<init>", "()V"⟩ prog_1_method_1_code 1 none ∈ zW := zw_mem 72 (by decide +kernel) (by decide +kernel)
theorem q73 : Cond.methodLink "HerdCords" 1 ⟨"java/lang/Object", "<init>", "()V"⟩ ∈ zW := zw_mem 73 (by decide +kernel) (by decide +kernel)
theorem q74 : Cond.instanceMethod ⟨"java/lang/Object", "<init>", "()V"⟩ ∈ zW := zw_mem 74 (by decide +kernel) (by decide +kernel)
theorem q75 : Cond.code ⟨"java/lang/Object", "<init>", "()V"⟩ object_method_1_code 1 none ∈ zW := zw_mem 75 (by decide +kernel) (by decide +kernel)
theorem q76 : Cond.classLink "HerdCords" 7 "HerdCords$Herd" ∈ zW := zw_mem 76 (by decide +kernel) (by decide +kernel)
theorem q77 : Cond.instantiable "HerdCords$Herd" 7 ∈ zW := zw_mem 77 (by decide +kernel) (by decide +kernel)
theorem q78 : Cond.methodLink "HerdCords" 9 ⟨"HerdCords$Herd", "<init>", "()V"⟩ ∈ zW := zw_mem 78 (by decide +kernel) (by decide +kernel)
theorem q79 : Cond.instanceMethod ⟨"HerdCords$Herd", "<init>", "()V"⟩ ∈ zW := zw_mem 79 (by decide +kernel) (by decide +kernel)
theorem q80 : Cond.code ⟨"HerdCords$Herd", "<init>", "()V"⟩ prog_3_method_1_code 2 none ∈ zW := zw_mem 80 (by decide +kernel) (by decide +kernel)
theorem q81 : Cond.methodLink "HerdCords$Herd" 3 ⟨"java/lang/Object", "<init>", "()V"⟩ ∈ zW := zw_mem 81 (by decide +kernel) (by decide +kernel)
theorem q82 : Cond.classLink "HerdCords$Herd" 9 "HerdCords$Cord" ∈ zW := zw_mem 82 (by decide +kernel) (by decide +kernel)
theorem q84 : Cond.instantiable "HerdCords$Cord" 6 ∈ zW := zw_mem 84 (by decide +kernel) (by decide +kernel)
theorem q86 : Cond.instanceMethod ⟨"HerdCords$Cord", "<init>", "()V"⟩ ∈ zW := zw_mem 86 (by decide +kernel) (by decide +kernel)
theorem q87 : Cond.code ⟨"HerdCords$Cord", "<init>", "()V"⟩ prog_2_method_1_code 1 none ∈ zW := zw_mem 87 (by decide +kernel) (by decide +kernel)
theorem q88 : Cond.methodLink "HerdCords$Cord" 3 ⟨"java/lang/Object", "<init>", "()V"⟩ ∈ zW := zw_mem 88 (by decide +kernel) (by decide +kernel)
theorem q89 : Cond.fieldLink "HerdCords$Cord" 9 "HerdCords$Cord" "knots" "[I" ∈ zW := zw_mem 89 (by decide +kernel) (by decide +kernel)
theorem q90 : Cond.fieldLink "HerdCords$Herd" 80 "HerdCords$Cord" "knots" "[I" ∈ zW := zw_mem 90 (by decide +kernel) (by decide +kernel)
theorem q91 : Cond.fieldLink "HerdCords" 163 "HerdCords$Cord" "knots" "[I" ∈ zW := zw_mem 91 (by decide +kernel) (by decide +kernel)
theorem q92 : Cond.fieldLink "HerdCords$Cord" 15 "HerdCords$Cord" "loops" "[I" ∈ zW := zw_mem 92 (by decide +kernel) (by decide +kernel)
theorem q93 : Cond.fieldLink "HerdCords" 166 "HerdCords$Cord" "loops" "[I" ∈ zW := zw_mem 93 (by decide +kernel) (by decide +kernel)
theorem q94 : Cond.fieldLink "HerdCords$Cord" 18 "HerdCords$Cord" "parts" "[I" ∈ zW := zw_mem 94 (by decide +kernel) (by decide +kernel)
theorem q95 : Cond.fieldLink "HerdCords" 186 "HerdCords$Cord" "parts" "[I" ∈ zW := zw_mem 95 (by decide +kernel) (by decide +kernel)
theorem q96 : Cond.fieldLink "HerdCords$Cord" 21 "HerdCords$Cord" "partCount" "I" ∈ zW := zw_mem 96 (by decide +kernel) (by decide +kernel)
theorem q97 : Cond.fieldLink "HerdCords" 148 "HerdCords$Cord" "partCount" "I" ∈ zW := zw_mem 97 (by decide +kernel) (by decide +kernel)
theorem q98 : Cond.fieldLink "HerdCords$Cord" 25 "HerdCords$Cord" "hue" "I" ∈ zW := zw_mem 98 (by decide +kernel) (by decide +kernel)
theorem q99 : Cond.fieldLink "HerdCords" 96 "HerdCords$Cord" "hue" "I" ∈ zW := zw_mem 99 (by decide +kernel) (by decide +kernel)
theorem q100 : Cond.fieldLink "HerdCords$Herd" 91 "HerdCords$Cord" "hue" "I" ∈ zW := zw_mem 100 (by decide +kernel) (by decide +kernel)
theorem q101 : Cond.fieldLink "HerdCords$Cord" 28 "HerdCords$Cord" "slips" "I" ∈ zW := zw_mem 101 (by decide +kernel) (by decide +kernel)
theorem q102 : Cond.fieldLink "HerdCords$Herd" 84 "HerdCords$Cord" "slips" "I" ∈ zW := zw_mem 102 (by decide +kernel) (by decide +kernel)
theorem q103 : Cond.fieldLink "HerdCords" 158 "HerdCords$Cord" "slips" "I" ∈ zW := zw_mem 103 (by decide +kernel) (by decide +kernel)
theorem q117 : Cond.arrayClass FieldType.int ∈ zW := zw_mem 117 (by decide +kernel) (by decide +kernel)
theorem q118 : Cond.fieldLink "HerdCords$Herd" 11 "HerdCords$Herd" "cords" "[LHerdCords$Cord;" ∈ zW := zw_mem 118 (by decide +kernel) (by decide +kernel)
theorem q119 : Cond.fieldLink "HerdCords" 279 "HerdCords$Herd" "cords" "[LHerdCords$Cord;" ∈ zW := zw_mem 119 (by decide +kernel) (by decide +kernel)
theorem q120 : Cond.fieldLink "HerdCords$Herd" 17 "HerdCords$Herd" "room" "I" ∈ zW := zw_mem 120 (by decide +kernel) (by decide +kernel)
theorem q121 : Cond.fieldLink "HerdCords" 101 "HerdCords$Herd" "room" "I" ∈ zW := zw_mem 121 (by decide +kernel) (by decide +kernel)
theorem q122 : Cond.fieldLink "HerdCords$Herd" 21 "HerdCords$Herd" "knotsTied" "I" ∈ zW := zw_mem 122 (by decide +kernel) (by decide +kernel)
theorem q123 : Cond.fieldLink "HerdCords" 190 "HerdCords$Herd" "knotsTied" "I" ∈ zW := zw_mem 123 (by decide +kernel) (by decide +kernel)
theorem q124 : Cond.fieldLink "HerdCords$Herd" 24 "HerdCords$Herd" "loopsTied" "I" ∈ zW := zw_mem 124 (by decide +kernel) (by decide +kernel)
theorem q125 : Cond.fieldLink "HerdCords" 193 "HerdCords$Herd" "loopsTied" "I" ∈ zW := zw_mem 125 (by decide +kernel) (by decide +kernel)
theorem q126 : Cond.fieldLink "HerdCords$Herd" 27 "HerdCords$Herd" "slips" "I" ∈ zW := zw_mem 126 (by decide +kernel) (by decide +kernel)
theorem q127 : Cond.fieldLink "HerdCords" 196 "HerdCords$Herd" "slips" "I" ∈ zW := zw_mem 127 (by decide +kernel) (by decide +kernel)
theorem q128 : Cond.fieldLink "HerdCords$Herd" 30 "HerdCords$Herd" "gone" "I" ∈ zW := zw_mem 128 (by decide +kernel) (by decide +kernel)
theorem q129 : Cond.fieldLink "HerdCords" 197 "HerdCords$Herd" "gone" "I" ∈ zW := zw_mem 129 (by decide +kernel) (by decide +kernel)
theorem q130 : Cond.fieldLink "HerdCords$Herd" 33 "HerdCords$Herd" "refused" "I" ∈ zW := zw_mem 130 (by decide +kernel) (by decide +kernel)
theorem q131 : Cond.fieldLink "HerdCords" 200 "HerdCords$Herd" "refused" "I" ∈ zW := zw_mem 131 (by decide +kernel) (by decide +kernel)
theorem q147 : Cond.classLink "HerdCords" 16 "HerdCords$History" ∈ zW := zw_mem 147 (by decide +kernel) (by decide +kernel)
theorem q148 : Cond.instantiable "HerdCords$History" 3 ∈ zW := zw_mem 148 (by decide +kernel) (by decide +kernel)
theorem q149 : Cond.methodLink "HerdCords" 18 ⟨"HerdCords$History", "<init>", "()V"⟩ ∈ zW := zw_mem 149 (by decide +kernel) (by decide +kernel)
theorem q150 : Cond.instanceMethod ⟨"HerdCords$History", "<init>", "()V"⟩ ∈ zW := zw_mem 150 (by decide +kernel) (by decide +kernel)
theorem q151 : Cond.code ⟨"HerdCords$History", "<init>", "()V"⟩ prog_4_method_1_code 2 none ∈ zW := zw_mem 151 (by decide +kernel) (by decide +kernel)
theorem q152 : Cond.methodLink "HerdCords$History" 3 ⟨"java/lang/Object", "<init>", "()V"⟩ ∈ zW := zw_mem 152 (by decide +kernel) (by decide +kernel)
theorem q153 : Cond.classLink "HerdCords$History" 9 "HerdCords$Herd" ∈ zW := zw_mem 153 (by decide +kernel) (by decide +kernel)
theorem q155 : Cond.methodLink "HerdCords$History" 24 ⟨"HerdCords$Herd", "<init>", "()V"⟩ ∈ zW := zw_mem 155 (by decide +kernel) (by decide +kernel)
theorem q156 : Cond.fieldLink "HerdCords$History" 11 "HerdCords$History" "saved" "[LHerdCords$Herd;" ∈ zW := zw_mem 156 (by decide +kernel) (by decide +kernel)
theorem q157 : Cond.fieldLink "HerdCords$History" 17 "HerdCords$History" "next" "I" ∈ zW := zw_mem 157 (by decide +kernel) (by decide +kernel)
theorem q158 : Cond.fieldLink "HerdCords$History" 21 "HerdCords$History" "size" "I" ∈ zW := zw_mem 158 (by decide +kernel) (by decide +kernel)
theorem q159 : Cond.fieldLink "HerdCords" 135 "HerdCords$History" "size" "I" ∈ zW := zw_mem 159 (by decide +kernel) (by decide +kernel)
theorem q167 : Cond.classLink "HerdCords" 35 "HerdCords$OrderReader" ∈ zW := zw_mem 167 (by decide +kernel) (by decide +kernel)
theorem q168 : Cond.instantiable "HerdCords$OrderReader" 5 ∈ zW := zw_mem 168 (by decide +kernel) (by decide +kernel)
theorem q170 : Cond.instanceMethod ⟨"HerdCords$OrderReader", "<init>", "()V"⟩ ∈ zW := zw_mem 170 (by decide +kernel) (by decide +kernel)
theorem q171 : Cond.code ⟨"HerdCords$OrderReader", "<init>", "()V"⟩ prog_5_method_1_code 1 none ∈ zW := zw_mem 171 (by decide +kernel) (by decide +kernel)
theorem q172 : Cond.methodLink "HerdCords$OrderReader" 3 ⟨"java/lang/Object", "<init>", "()V"⟩ ∈ zW := zw_mem 172 (by decide +kernel) (by decide +kernel)
theorem q173 : Cond.fieldLink "HerdCords$OrderReader" 11 "HerdCords$OrderReader" "step" "I" ∈ zW := zw_mem 173 (by decide +kernel) (by decide +kernel)
theorem q174 : Cond.fieldLink "HerdCords$OrderReader" 15 "HerdCords$OrderReader" "digits" "I" ∈ zW := zw_mem 174 (by decide +kernel) (by decide +kernel)
theorem q175 : Cond.fieldLink "HerdCords$OrderReader" 18 "HerdCords$OrderReader" "cord" "I" ∈ zW := zw_mem 175 (by decide +kernel) (by decide +kernel)
theorem q176 : Cond.fieldLink "HerdCords" 302 "HerdCords$OrderReader" "cord" "I" ∈ zW := zw_mem 176 (by decide +kernel) (by decide +kernel)
theorem q177 : Cond.fieldLink "HerdCords$OrderReader" 21 "HerdCords$OrderReader" "kind" "C" ∈ zW := zw_mem 177 (by decide +kernel) (by decide +kernel)
theorem q178 : Cond.fieldLink "HerdCords" 305 "HerdCords$OrderReader" "kind" "C" ∈ zW := zw_mem 178 (by decide +kernel) (by decide +kernel)
theorem q179 : Cond.fieldLink "HerdCords$OrderReader" 25 "HerdCords$OrderReader" "value" "I" ∈ zW := zw_mem 179 (by decide +kernel) (by decide +kernel)
theorem q180 : Cond.fieldLink "HerdCords" 309 "HerdCords$OrderReader" "value" "I" ∈ zW := zw_mem 180 (by decide +kernel) (by decide +kernel)
theorem q192 : Cond.arrayClass FieldType.char ∈ zW := zw_mem 192 (by decide +kernel) (by decide +kernel)
theorem q193 : Cond.classLink "HerdCords" 42 "HerdCords$Cord" ∈ zW := zw_mem 193 (by decide +kernel) (by decide +kernel)
theorem q195 : Cond.fieldLink "HerdCords" 10 "HerdCords" "herd" "LHerdCords$Herd;" ∈ zW := zw_mem 195 (by decide +kernel) (by decide +kernel)
theorem q196 : Cond.fieldLink "HerdCords" 19 "HerdCords" "history" "LHerdCords$History;" ∈ zW := zw_mem 196 (by decide +kernel) (by decide +kernel)
theorem q197 : Cond.fieldLink "HerdCords" 23 "HerdCords" "snapshots" "[LHerdCords$Herd;" ∈ zW := zw_mem 197 (by decide +kernel) (by decide +kernel)
theorem q198 : Cond.fieldLink "HerdCords" 27 "HerdCords" "buffer" "[C" ∈ zW := zw_mem 198 (by decide +kernel) (by decide +kernel)
theorem q199 : Cond.fieldLink "HerdCords" 31 "HerdCords" "length" "I" ∈ zW := zw_mem 199 (by decide +kernel) (by decide +kernel)
theorem q200 : Cond.fieldLink "HerdCords" 38 "HerdCords" "reader" "LHerdCords$OrderReader;" ∈ zW := zw_mem 200 (by decide +kernel) (by decide +kernel)
theorem q201 : Cond.fieldLink "HerdCords" 45 "HerdCords" "trial" "LHerdCords$Cord;" ∈ zW := zw_mem 201 (by decide +kernel) (by decide +kernel)
theorem q202 : Cond.fieldLink "HerdCords" 49 "HerdCords" "told" "[I" ∈ zW := zw_mem 202 (by decide +kernel) (by decide +kernel)
theorem q220 : Cond.methodLink "HerdCordsLaw" 114 ⟨"HerdCords", "clearBuffer", "()I"⟩ ∈ zW := zw_mem 220 (by decide +kernel) (by decide +kernel)
theorem q221 : Cond.instanceMethod ⟨"HerdCords", "clearBuffer", "()I"⟩ ∈ zW := zw_mem 221 (by decide +kernel) (by decide +kernel)
theorem q222 : Cond.selects "HerdCords" ⟨"HerdCords", "clearBuffer", "()I"⟩ ⟨"HerdCords", "clearBuffer", "()I"⟩ ∈ zW := zw_mem 222 (by decide +kernel) (by decide +kernel)
theorem q223 : Cond.code ⟨"HerdCords", "clearBuffer", "()I"⟩ prog_1_method_10_code 2 (some .int) ∈ zW := zw_mem 223 (by decide +kernel) (by decide +kernel)
theorem q224 : Cond.methodLink "HerdCordsLaw" 118 ⟨"HerdCords", "firstError", "()I"⟩ ∈ zW := zw_mem 224 (by decide +kernel) (by decide +kernel)
theorem q225 : Cond.instanceMethod ⟨"HerdCords", "firstError", "()I"⟩ ∈ zW := zw_mem 225 (by decide +kernel) (by decide +kernel)
theorem q226 : Cond.selects "HerdCords" ⟨"HerdCords", "firstError", "()I"⟩ ⟨"HerdCords", "firstError", "()I"⟩ ∈ zW := zw_mem 226 (by decide +kernel) (by decide +kernel)
theorem q227 : Cond.code ⟨"HerdCords", "firstError", "()I"⟩ prog_1_method_11_code 1 (some .int) ∈ zW := zw_mem 227 (by decide +kernel) (by decide +kernel)
theorem q228 : Cond.methodLink "HerdCords" 111 ⟨"HerdCords", "readBuffer", "()I"⟩ ∈ zW := zw_mem 228 (by decide +kernel) (by decide +kernel)
theorem q230 : Cond.instanceMethod ⟨"HerdCords", "readBuffer", "()I"⟩ ∈ zW := zw_mem 230 (by decide +kernel) (by decide +kernel)
theorem q231 : Cond.code ⟨"HerdCords", "readBuffer", "()I"⟩ prog_1_method_32_code 2 (some .int) ∈ zW := zw_mem 231 (by decide +kernel) (by decide +kernel)
theorem q232 : Cond.methodLink "HerdCords" 292 ⟨"HerdCords$OrderReader", "begin", "()V"⟩ ∈ zW := zw_mem 232 (by decide +kernel) (by decide +kernel)
theorem q233 : Cond.instanceMethod ⟨"HerdCords$OrderReader", "begin", "()V"⟩ ∈ zW := zw_mem 233 (by decide +kernel) (by decide +kernel)
theorem q234 : Cond.selects "HerdCords$OrderReader" ⟨"HerdCords$OrderReader", "begin", "()V"⟩ ⟨"HerdCords$OrderReader", "begin", "()V"⟩ ∈ zW := zw_mem 234 (by decide +kernel) (by decide +kernel)
theorem q235 : Cond.code ⟨"HerdCords$OrderReader", "begin", "()V"⟩ prog_5_method_2_code 1 none ∈ zW := zw_mem 235 (by decide +kernel) (by decide +kernel)
theorem q236 : Cond.methodLink "HerdCords" 295 ⟨"HerdCords$OrderReader", "takes", "(C)Z"⟩ ∈ zW := zw_mem 236 (by decide +kernel) (by decide +kernel)
theorem q237 : Cond.instanceMethod ⟨"HerdCords$OrderReader", "takes", "(C)Z"⟩ ∈ zW := zw_mem 237 (by decide +kernel) (by decide +kernel)
theorem q238 : Cond.selects "HerdCords$OrderReader" ⟨"HerdCords$OrderReader", "takes", "(C)Z"⟩ ⟨"HerdCords$OrderReader", "takes", "(C)Z"⟩ ∈ zW := zw_mem 238 (by decide +kernel) (by decide +kernel)
theorem q239 : Cond.code ⟨"HerdCords$OrderReader", "takes", "(C)Z"⟩ prog_5_method_4_code 2 (some .boolean) ∈ zW := zw_mem 239 (by decide +kernel) (by decide +kernel)
theorem q240 : Cond.methodLink "HerdCords$OrderReader" 28 ⟨"HerdCords$OrderReader", "takesCord", "(I)Z"⟩ ∈ zW := zw_mem 240 (by decide +kernel) (by decide +kernel)
theorem q242 : Cond.instanceMethod ⟨"HerdCords$OrderReader", "takesCord", "(I)Z"⟩ ∈ zW := zw_mem 242 (by decide +kernel) (by decide +kernel)
theorem q243 : Cond.code ⟨"HerdCords$OrderReader", "takesCord", "(I)Z"⟩ prog_5_method_5_code 2 (some .boolean) ∈ zW := zw_mem 243 (by decide +kernel) (by decide +kernel)
theorem q244 : Cond.methodLink "HerdCords$OrderReader" 32 ⟨"HerdCords$OrderReader", "takesKind", "(C)Z"⟩ ∈ zW := zw_mem 244 (by decide +kernel) (by decide +kernel)
theorem q246 : Cond.instanceMethod ⟨"HerdCords$OrderReader", "takesKind", "(C)Z"⟩ ∈ zW := zw_mem 246 (by decide +kernel) (by decide +kernel)
theorem q247 : Cond.code ⟨"HerdCords$OrderReader", "takesKind", "(C)Z"⟩ prog_5_method_6_code 2 (some .boolean) ∈ zW := zw_mem 247 (by decide +kernel) (by decide +kernel)
theorem q248 : Cond.methodLink "HerdCords$OrderReader" 36 ⟨"HerdCords$OrderReader", "takesValue", "(I)Z"⟩ ∈ zW := zw_mem 248 (by decide +kernel) (by decide +kernel)
theorem q250 : Cond.instanceMethod ⟨"HerdCords$OrderReader", "takesValue", "(I)Z"⟩ ∈ zW := zw_mem 250 (by decide +kernel) (by decide +kernel)
theorem q251 : Cond.code ⟨"HerdCords$OrderReader", "takesValue", "(I)Z"⟩ prog_5_method_7_code 2 (some .boolean) ∈ zW := zw_mem 251 (by decide +kernel) (by decide +kernel)
theorem q252 : Cond.methodLink "HerdCords$OrderReader" 46 ⟨"HerdCords$OrderReader", "mayBeginValue", "(I)Z"⟩ ∈ zW := zw_mem 252 (by decide +kernel) (by decide +kernel)
theorem q254 : Cond.instanceMethod ⟨"HerdCords$OrderReader", "mayBeginValue", "(I)Z"⟩ ∈ zW := zw_mem 254 (by decide +kernel) (by decide +kernel)
theorem q255 : Cond.code ⟨"HerdCords$OrderReader", "mayBeginValue", "(I)Z"⟩ prog_5_method_8_code 2 (some .boolean) ∈ zW := zw_mem 255 (by decide +kernel) (by decide +kernel)
theorem q256 : Cond.methodLink "HerdCords$OrderReader" 39 ⟨"HerdCords$OrderReader", "takesBetween", "()Z"⟩ ∈ zW := zw_mem 256 (by decide +kernel) (by decide +kernel)
theorem q258 : Cond.instanceMethod ⟨"HerdCords$OrderReader", "takesBetween", "()Z"⟩ ∈ zW := zw_mem 258 (by decide +kernel) (by decide +kernel)
theorem q259 : Cond.code ⟨"HerdCords$OrderReader", "takesBetween", "()Z"⟩ prog_5_method_9_code 1 (some .boolean) ∈ zW := zw_mem 259 (by decide +kernel) (by decide +kernel)
theorem q260 : Cond.methodLink "HerdCords$OrderReader" 43 ⟨"HerdCords$OrderReader", "takesDigit", "(I)Z"⟩ ∈ zW := zw_mem 260 (by decide +kernel) (by decide +kernel)
theorem q262 : Cond.instanceMethod ⟨"HerdCords$OrderReader", "takesDigit", "(I)Z"⟩ ∈ zW := zw_mem 262 (by decide +kernel) (by decide +kernel)
theorem q263 : Cond.code ⟨"HerdCords$OrderReader", "takesDigit", "(I)Z"⟩ prog_5_method_10_code 2 (some .boolean) ∈ zW := zw_mem 263 (by decide +kernel) (by decide +kernel)
theorem q264 : Cond.methodLink "HerdCordsLaw" 160 ⟨"HerdCords", "fullest", "()I"⟩ ∈ zW := zw_mem 264 (by decide +kernel) (by decide +kernel)
theorem q265 : Cond.instanceMethod ⟨"HerdCords", "fullest", "()I"⟩ ∈ zW := zw_mem 265 (by decide +kernel) (by decide +kernel)
theorem q266 : Cond.selects "HerdCords" ⟨"HerdCords", "fullest", "()I"⟩ ⟨"HerdCords", "fullest", "()I"⟩ ∈ zW := zw_mem 266 (by decide +kernel) (by decide +kernel)
theorem q267 : Cond.code ⟨"HerdCords", "fullest", "()I"⟩ prog_1_method_24_code 1 (some .int) ∈ zW := zw_mem 267 (by decide +kernel) (by decide +kernel)
theorem q268 : Cond.methodLink "HerdCords" 237 ⟨"HerdCords$Herd", "fullestCord", "()I"⟩ ∈ zW := zw_mem 268 (by decide +kernel) (by decide +kernel)
theorem q269 : Cond.instanceMethod ⟨"HerdCords$Herd", "fullestCord", "()I"⟩ ∈ zW := zw_mem 269 (by decide +kernel) (by decide +kernel)
theorem q270 : Cond.selects "HerdCords$Herd" ⟨"HerdCords$Herd", "fullestCord", "()I"⟩ ⟨"HerdCords$Herd", "fullestCord", "()I"⟩ ∈ zW := zw_mem 270 (by decide +kernel) (by decide +kernel)
theorem q271 : Cond.code ⟨"HerdCords$Herd", "fullestCord", "()I"⟩ prog_3_method_16_code 3 (some .int) ∈ zW := zw_mem 271 (by decide +kernel) (by decide +kernel)
theorem q272 : Cond.methodLink "HerdCords$Herd" 85 ⟨"HerdCords$Cord", "ties", "()I"⟩ ∈ zW := zw_mem 272 (by decide +kernel) (by decide +kernel)
theorem q273 : Cond.instanceMethod ⟨"HerdCords$Cord", "ties", "()I"⟩ ∈ zW := zw_mem 273 (by decide +kernel) (by decide +kernel)
theorem q274 : Cond.selects "HerdCords$Cord" ⟨"HerdCords$Cord", "ties", "()I"⟩ ⟨"HerdCords$Cord", "ties", "()I"⟩ ∈ zW := zw_mem 274 (by decide +kernel) (by decide +kernel)
theorem q275 : Cond.code ⟨"HerdCords$Cord", "ties", "()I"⟩ prog_2_method_11_code 1 (some .int) ∈ zW := zw_mem 275 (by decide +kernel) (by decide +kernel)
theorem q276 : Cond.methodLink "HerdCords$Cord" 52 ⟨"HerdCords$Cord", "allKnots", "()I"⟩ ∈ zW := zw_mem 276 (by decide +kernel) (by decide +kernel)
theorem q277 : Cond.instanceMethod ⟨"HerdCords$Cord", "allKnots", "()I"⟩ ∈ zW := zw_mem 277 (by decide +kernel) (by decide +kernel)
theorem q278 : Cond.selects "HerdCords$Cord" ⟨"HerdCords$Cord", "allKnots", "()I"⟩ ⟨"HerdCords$Cord", "allKnots", "()I"⟩ ∈ zW := zw_mem 278 (by decide +kernel) (by decide +kernel)
theorem q279 : Cond.code ⟨"HerdCords$Cord", "allKnots", "()I"⟩ prog_2_method_9_code 1 (some .int) ∈ zW := zw_mem 279 (by decide +kernel) (by decide +kernel)
theorem q280 : Cond.methodLink "HerdCords$Cord" 41 ⟨"HerdCords$Cord", "sumOf", "([II)I"⟩ ∈ zW := zw_mem 280 (by decide +kernel) (by decide +kernel)
theorem q281 : Cond.static ⟨"HerdCords$Cord", "sumOf", "([II)I"⟩ ∈ zW := zw_mem 281 (by decide +kernel) (by decide +kernel)
theorem q282 : Cond.code ⟨"HerdCords$Cord", "sumOf", "([II)I"⟩ prog_2_method_17_code 4 (some .int) ∈ zW := zw_mem 282 (by decide +kernel) (by decide +kernel)
theorem q283 : Cond.methodLink "HerdCords$Cord" 55 ⟨"HerdCords$Cord", "allLoops", "()I"⟩ ∈ zW := zw_mem 283 (by decide +kernel) (by decide +kernel)
theorem q284 : Cond.instanceMethod ⟨"HerdCords$Cord", "allLoops", "()I"⟩ ∈ zW := zw_mem 284 (by decide +kernel) (by decide +kernel)
theorem q285 : Cond.selects "HerdCords$Cord" ⟨"HerdCords$Cord", "allLoops", "()I"⟩ ⟨"HerdCords$Cord", "allLoops", "()I"⟩ ∈ zW := zw_mem 285 (by decide +kernel) (by decide +kernel)
theorem q286 : Cond.code ⟨"HerdCords$Cord", "allLoops", "()I"⟩ prog_2_method_10_code 1 (some .int) ∈ zW := zw_mem 286 (by decide +kernel) (by decide +kernel)
theorem q287 : Cond.methodLink "HerdCordsLaw" 164 ⟨"HerdCords", "closedShare", "()D"⟩ ∈ zW := zw_mem 287 (by decide +kernel) (by decide +kernel)
theorem q288 : Cond.instanceMethod ⟨"HerdCords", "closedShare", "()D"⟩ ∈ zW := zw_mem 288 (by decide +kernel) (by decide +kernel)
theorem q289 : Cond.selects "HerdCords" ⟨"HerdCords", "closedShare", "()D"⟩ ⟨"HerdCords", "closedShare", "()D"⟩ ∈ zW := zw_mem 289 (by decide +kernel) (by decide +kernel)
theorem q290 : Cond.code ⟨"HerdCords", "closedShare", "()D"⟩ prog_1_method_25_code 2 (some .double) ∈ zW := zw_mem 290 (by decide +kernel) (by decide +kernel)
theorem q291 : Cond.methodLink "HerdCords" 240 ⟨"HerdCords$Herd", "knots", "()I"⟩ ∈ zW := zw_mem 291 (by decide +kernel) (by decide +kernel)
theorem q292 : Cond.instanceMethod ⟨"HerdCords$Herd", "knots", "()I"⟩ ∈ zW := zw_mem 292 (by decide +kernel) (by decide +kernel)
theorem q293 : Cond.selects "HerdCords$Herd" ⟨"HerdCords$Herd", "knots", "()I"⟩ ⟨"HerdCords$Herd", "knots", "()I"⟩ ∈ zW := zw_mem 293 (by decide +kernel) (by decide +kernel)
theorem q294 : Cond.code ⟨"HerdCords$Herd", "knots", "()I"⟩ prog_3_method_12_code 6 (some .int) ∈ zW := zw_mem 294 (by decide +kernel) (by decide +kernel)
theorem q295 : Cond.methodLink "HerdCords$Herd" 45 ⟨"HerdCords$Cord", "allKnots", "()I"⟩ ∈ zW := zw_mem 295 (by decide +kernel) (by decide +kernel)
theorem q296 : Cond.methodLink "HerdCords" 242 ⟨"HerdCords$Herd", "loops", "()I"⟩ ∈ zW := zw_mem 296 (by decide +kernel) (by decide +kernel)
theorem q297 : Cond.instanceMethod ⟨"HerdCords$Herd", "loops", "()I"⟩ ∈ zW := zw_mem 297 (by decide +kernel) (by decide +kernel)
theorem q298 : Cond.selects "HerdCords$Herd" ⟨"HerdCords$Herd", "loops", "()I"⟩ ⟨"HerdCords$Herd", "loops", "()I"⟩ ∈ zW := zw_mem 298 (by decide +kernel) (by decide +kernel)
theorem q299 : Cond.code ⟨"HerdCords$Herd", "loops", "()I"⟩ prog_3_method_13_code 6 (some .int) ∈ zW := zw_mem 299 (by decide +kernel) (by decide +kernel)
theorem q300 : Cond.methodLink "HerdCords$Herd" 49 ⟨"HerdCords$Cord", "allLoops", "()I"⟩ ∈ zW := zw_mem 300 (by decide +kernel) (by decide +kernel)
theorem q301 : Cond.methodLink "HerdCordsLaw" 169 ⟨"HerdCords", "digest", "()J"⟩ ∈ zW := zw_mem 301 (by decide +kernel) (by decide +kernel)
theorem q302 : Cond.instanceMethod ⟨"HerdCords", "digest", "()J"⟩ ∈ zW := zw_mem 302 (by decide +kernel) (by decide +kernel)
theorem q303 : Cond.selects "HerdCords" ⟨"HerdCords", "digest", "()J"⟩ ⟨"HerdCords", "digest", "()J"⟩ ∈ zW := zw_mem 303 (by decide +kernel) (by decide +kernel)
theorem q304 : Cond.code ⟨"HerdCords", "digest", "()J"⟩ prog_1_method_26_code 4 (some .long) ∈ zW := zw_mem 304 (by decide +kernel) (by decide +kernel)
theorem q305 : Cond.constantLong "HerdCords" 244 (3673) ∈ zW := zw_mem 305 (by decide +kernel) (by decide +kernel)
theorem q306 : Cond.methodLink "HerdCords" 246 ⟨"HerdCords", "count", "(I)I"⟩ ∈ zW := zw_mem 306 (by decide +kernel) (by decide +kernel)
theorem q307 : Cond.instanceMethod ⟨"HerdCords", "count", "(I)I"⟩ ∈ zW := zw_mem 307 (by decide +kernel) (by decide +kernel)
theorem q308 : Cond.selects "HerdCords" ⟨"HerdCords", "count", "(I)I"⟩ ⟨"HerdCords", "count", "(I)I"⟩ ∈ zW := zw_mem 308 (by decide +kernel) (by decide +kernel)
theorem q309 : Cond.code ⟨"HerdCords", "count", "(I)I"⟩ prog_1_method_19_code 2 (some .int) ∈ zW := zw_mem 309 (by decide +kernel) (by decide +kernel)
theorem q310 : Cond.methodLink "HerdCords" 189 ⟨"HerdCords$Herd", "told", "()I"⟩ ∈ zW := zw_mem 310 (by decide +kernel) (by decide +kernel)
theorem q311 : Cond.instanceMethod ⟨"HerdCords$Herd", "told", "()I"⟩ ∈ zW := zw_mem 311 (by decide +kernel) (by decide +kernel)
theorem q312 : Cond.selects "HerdCords$Herd" ⟨"HerdCords$Herd", "told", "()I"⟩ ⟨"HerdCords$Herd", "told", "()I"⟩ ∈ zW := zw_mem 312 (by decide +kernel) (by decide +kernel)
theorem q313 : Cond.code ⟨"HerdCords$Herd", "told", "()I"⟩ prog_3_method_10_code 6 (some .int) ∈ zW := zw_mem 313 (by decide +kernel) (by decide +kernel)
theorem q314 : Cond.methodLink "HerdCords$Herd" 60 ⟨"HerdCords$Cord", "told", "()I"⟩ ∈ zW := zw_mem 314 (by decide +kernel) (by decide +kernel)
theorem q315 : Cond.instanceMethod ⟨"HerdCords$Cord", "told", "()I"⟩ ∈ zW := zw_mem 315 (by decide +kernel) (by decide +kernel)
theorem q316 : Cond.selects "HerdCords$Cord" ⟨"HerdCords$Cord", "told", "()I"⟩ ⟨"HerdCords$Cord", "told", "()I"⟩ ∈ zW := zw_mem 316 (by decide +kernel) (by decide +kernel)
theorem q317 : Cond.code ⟨"HerdCords$Cord", "told", "()I"⟩ prog_2_method_6_code 3 (some .int) ∈ zW := zw_mem 317 (by decide +kernel) (by decide +kernel)
theorem q318 : Cond.methodLink "HerdCords$Cord" 37 ⟨"HerdCords$Cord", "open", "(I)I"⟩ ∈ zW := zw_mem 318 (by decide +kernel) (by decide +kernel)
theorem q319 : Cond.instanceMethod ⟨"HerdCords$Cord", "open", "(I)I"⟩ ∈ zW := zw_mem 319 (by decide +kernel) (by decide +kernel)
theorem q320 : Cond.selects "HerdCords$Cord" ⟨"HerdCords$Cord", "open", "(I)I"⟩ ⟨"HerdCords$Cord", "open", "(I)I"⟩ ∈ zW := zw_mem 320 (by decide +kernel) (by decide +kernel)
theorem q321 : Cond.code ⟨"HerdCords$Cord", "open", "(I)I"⟩ prog_2_method_4_code 2 (some .int) ∈ zW := zw_mem 321 (by decide +kernel) (by decide +kernel)
theorem q322 : Cond.methodLink "HerdCords" 130 ⟨"HerdCords$Herd", "ties", "()I"⟩ ∈ zW := zw_mem 322 (by decide +kernel) (by decide +kernel)
theorem q323 : Cond.instanceMethod ⟨"HerdCords$Herd", "ties", "()I"⟩ ∈ zW := zw_mem 323 (by decide +kernel) (by decide +kernel)
theorem q324 : Cond.selects "HerdCords$Herd" ⟨"HerdCords$Herd", "ties", "()I"⟩ ⟨"HerdCords$Herd", "ties", "()I"⟩ ∈ zW := zw_mem 324 (by decide +kernel) (by decide +kernel)
theorem q325 : Cond.code ⟨"HerdCords$Herd", "ties", "()I"⟩ prog_3_method_14_code 1 (some .int) ∈ zW := zw_mem 325 (by decide +kernel) (by decide +kernel)
theorem q326 : Cond.methodLink "HerdCords$Herd" 94 ⟨"HerdCords$Herd", "knots", "()I"⟩ ∈ zW := zw_mem 326 (by decide +kernel) (by decide +kernel)
theorem q327 : Cond.methodLink "HerdCords$Herd" 96 ⟨"HerdCords$Herd", "loops", "()I"⟩ ∈ zW := zw_mem 327 (by decide +kernel) (by decide +kernel)
theorem q328 : Cond.methodLink "HerdCords" 203 ⟨"HerdCords$Herd", "lacking", "()I"⟩ ∈ zW := zw_mem 328 (by decide +kernel) (by decide +kernel)
theorem q329 : Cond.instanceMethod ⟨"HerdCords$Herd", "lacking", "()I"⟩ ∈ zW := zw_mem 329 (by decide +kernel) (by decide +kernel)
theorem q330 : Cond.selects "HerdCords$Herd" ⟨"HerdCords$Herd", "lacking", "()I"⟩ ⟨"HerdCords$Herd", "lacking", "()I"⟩ ∈ zW := zw_mem 330 (by decide +kernel) (by decide +kernel)
theorem q331 : Cond.code ⟨"HerdCords$Herd", "lacking", "()I"⟩ prog_3_method_15_code 6 (some .int) ∈ zW := zw_mem 331 (by decide +kernel) (by decide +kernel)
theorem q332 : Cond.methodLink "HerdCords$Herd" 67 ⟨"HerdCords$Cord", "lack", "()I"⟩ ∈ zW := zw_mem 332 (by decide +kernel) (by decide +kernel)
theorem q333 : Cond.instanceMethod ⟨"HerdCords$Cord", "lack", "()I"⟩ ∈ zW := zw_mem 333 (by decide +kernel) (by decide +kernel)
theorem q334 : Cond.selects "HerdCords$Cord" ⟨"HerdCords$Cord", "lack", "()I"⟩ ⟨"HerdCords$Cord", "lack", "()I"⟩ ∈ zW := zw_mem 334 (by decide +kernel) (by decide +kernel)
theorem q335 : Cond.code ⟨"HerdCords$Cord", "lack", "()I"⟩ prog_2_method_8_code 1 (some .int) ∈ zW := zw_mem 335 (by decide +kernel) (by decide +kernel)
theorem q336 : Cond.methodLink "HerdCords$Cord" 45 ⟨"HerdCords$Cord", "partsTogether", "()I"⟩ ∈ zW := zw_mem 336 (by decide +kernel) (by decide +kernel)
theorem q337 : Cond.instanceMethod ⟨"HerdCords$Cord", "partsTogether", "()I"⟩ ∈ zW := zw_mem 337 (by decide +kernel) (by decide +kernel)
theorem q338 : Cond.selects "HerdCords$Cord" ⟨"HerdCords$Cord", "partsTogether", "()I"⟩ ⟨"HerdCords$Cord", "partsTogether", "()I"⟩ ∈ zW := zw_mem 338 (by decide +kernel) (by decide +kernel)
theorem q339 : Cond.code ⟨"HerdCords$Cord", "partsTogether", "()I"⟩ prog_2_method_7_code 1 (some .int) ∈ zW := zw_mem 339 (by decide +kernel) (by decide +kernel)
theorem q340 : Cond.methodLink "HerdCords$Cord" 49 ⟨"HerdCords$Cord", "told", "()I"⟩ ∈ zW := zw_mem 340 (by decide +kernel) (by decide +kernel)
theorem q341 : Cond.classLink "HerdCords" 69 "java/lang/IllegalArgumentException" ∈ zW := zw_mem 341 (by decide +kernel) (by decide +kernel)
theorem q342 : Cond.instantiable "java/lang/IllegalArgumentException" 6 ∈ zW := zw_mem 342 (by decide +kernel) (by decide +kernel)
theorem q383 : Cond.methodLink "HerdCords" 73 ⟨"java/lang/IllegalArgumentException", "<init>", "(Ljava/lang/String;)V"⟩ ∈ zW := zw_mem 383 (by decide +kernel) (by decide +kernel)
theorem q384 : Cond.instanceMethod ⟨"java/lang/IllegalArgumentException", "<init>", "(Ljava/lang/String;)V"⟩ ∈ zW := zw_mem 384 (by decide +kernel) (by decide +kernel)
theorem q385 : Cond.code ⟨"java/lang/IllegalArgumentException", "<init>", "(Ljava/lang/String;)V"⟩ prog_9_method_2_code 2 none ∈ zW := zw_mem 385 (by decide +kernel) (by decide +kernel)
theorem q408 : Cond.arrayClass FieldType.byte ∈ zW := zw_mem 408 (by decide +kernel) (by decide +kernel)
theorem q409 : Cond.methodLink "HerdCords" 249 ⟨"HerdCords", "mix", "(JJ)J"⟩ ∈ zW := zw_mem 409 (by decide +kernel) (by decide +kernel)
theorem q410 : Cond.static ⟨"HerdCords", "mix", "(JJ)J"⟩ ∈ zW := zw_mem 410 (by decide +kernel) (by decide +kernel)
theorem q411 : Cond.code ⟨"HerdCords", "mix", "(JJ)J"⟩ prog_1_method_40_code 4 (some .long) ∈ zW := zw_mem 411 (by decide +kernel) (by decide +kernel)
theorem q412 : Cond.constantLong "HerdCords" 342 (31) ∈ zW := zw_mem 412 (by decide +kernel) (by decide +kernel)
theorem q413 : Cond.methodLink "HerdCords" 253 ⟨"HerdCords", "mixCord", "(JI)J"⟩ ∈ zW := zw_mem 413 (by decide +kernel) (by decide +kernel)
theorem q415 : Cond.instanceMethod ⟨"HerdCords", "mixCord", "(JI)J"⟩ ∈ zW := zw_mem 415 (by decide +kernel) (by decide +kernel)
theorem q416 : Cond.code ⟨"HerdCords", "mixCord", "(JI)J"⟩ prog_1_method_39_code 8 (some .long) ∈ zW := zw_mem 416 (by decide +kernel) (by decide +kernel)
theorem q417 : Cond.methodLink "HerdCords" 326 ⟨"HerdCords", "cordOf", "(II)I"⟩ ∈ zW := zw_mem 417 (by decide +kernel) (by decide +kernel)
theorem q418 : Cond.instanceMethod ⟨"HerdCords", "cordOf", "(II)I"⟩ ∈ zW := zw_mem 418 (by decide +kernel) (by decide +kernel)
theorem q419 : Cond.selects "HerdCords" ⟨"HerdCords", "cordOf", "(II)I"⟩ ⟨"HerdCords", "cordOf", "(II)I"⟩ ∈ zW := zw_mem 419 (by decide +kernel) (by decide +kernel)
theorem q420 : Cond.code ⟨"HerdCords", "cordOf", "(II)I"⟩ prog_1_method_16_code 4 (some .int) ∈ zW := zw_mem 420 (by decide +kernel) (by decide +kernel)
theorem q421 : Cond.methodLink "HerdCords" 53 ⟨"HerdCords", "cordAt", "(I)LHerdCords$Cord;"⟩ ∈ zW := zw_mem 421 (by decide +kernel) (by decide +kernel)
theorem q423 : Cond.instanceMethod ⟨"HerdCords", "cordAt", "(I)LHerdCords$Cord;"⟩ ∈ zW := zw_mem 423 (by decide +kernel) (by decide +kernel)
theorem q424 : Cond.code ⟨"HerdCords", "cordAt", "(I)LHerdCords$Cord;"⟩ prog_1_method_27_code 2 (some (.object "HerdCords$Cord")) ∈ zW := zw_mem 424 (by decide +kernel) (by decide +kernel)
theorem q425 : Cond.classLink "HerdCords" 274 "java/lang/IndexOutOfBoundsException" ∈ zW := zw_mem 425 (by decide +kernel) (by decide +kernel)
theorem q426 : Cond.instantiable "java/lang/IndexOutOfBoundsException" 6 ∈ zW := zw_mem 426 (by decide +kernel) (by decide +kernel)
theorem q435 : Cond.methodLink "HerdCords" 278 ⟨"java/lang/IndexOutOfBoundsException", "<init>", "(Ljava/lang/String;)V"⟩ ∈ zW := zw_mem 435 (by decide +kernel) (by decide +kernel)
theorem q436 : Cond.instanceMethod ⟨"java/lang/IndexOutOfBoundsException", "<init>", "(Ljava/lang/String;)V"⟩ ∈ zW := zw_mem 436 (by decide +kernel) (by decide +kernel)
theorem q437 : Cond.code ⟨"java/lang/IndexOutOfBoundsException", "<init>", "(Ljava/lang/String;)V"⟩ prog_11_method_2_code 2 none ∈ zW := zw_mem 437 (by decide +kernel) (by decide +kernel)
theorem q441 : Cond.methodLink "HerdCords" 143 ⟨"HerdCords$Cord", "told", "()I"⟩ ∈ zW := zw_mem 441 (by decide +kernel) (by decide +kernel)
theorem q442 : Cond.methodLink "HerdCords" 145 ⟨"HerdCords$Cord", "partsTogether", "()I"⟩ ∈ zW := zw_mem 442 (by decide +kernel) (by decide +kernel)
theorem q443 : Cond.methodLink "HerdCords" 151 ⟨"HerdCords$Cord", "lack", "()I"⟩ ∈ zW := zw_mem 443 (by decide +kernel) (by decide +kernel)
theorem q444 : Cond.methodLink "HerdCords" 154 ⟨"HerdCords$Cord", "ties", "()I"⟩ ∈ zW := zw_mem 444 (by decide +kernel) (by decide +kernel)
theorem q445 : Cond.methodLink "HerdCords" 155 ⟨"HerdCords$Cord", "allLoops", "()I"⟩ ∈ zW := zw_mem 445 (by decide +kernel) (by decide +kernel)
theorem q447 : Cond.methodLink "HerdCords" 329 ⟨"HerdCords", "placeOf", "(III)I"⟩ ∈ zW := zw_mem 447 (by decide +kernel) (by decide +kernel)
theorem q448 : Cond.instanceMethod ⟨"HerdCords", "placeOf", "(III)I"⟩ ∈ zW := zw_mem 448 (by decide +kernel) (by decide +kernel)
theorem q449 : Cond.selects "HerdCords" ⟨"HerdCords", "placeOf", "(III)I"⟩ ⟨"HerdCords", "placeOf", "(III)I"⟩ ∈ zW := zw_mem 449 (by decide +kernel) (by decide +kernel)
theorem q450 : Cond.code ⟨"HerdCords", "placeOf", "(III)I"⟩ prog_1_method_17_code 5 (some .int) ∈ zW := zw_mem 450 (by decide +kernel) (by decide +kernel)
theorem q451 : Cond.methodLink "HerdCords" 80 ⟨"HerdCords", "checkPlace", "(I)V"⟩ ∈ zW := zw_mem 451 (by decide +kernel) (by decide +kernel)
theorem q452 : Cond.static ⟨"HerdCords", "checkPlace", "(I)V"⟩ ∈ zW := zw_mem 452 (by decide +kernel) (by decide +kernel)
theorem q453 : Cond.code ⟨"HerdCords", "checkPlace", "(I)V"⟩ prog_1_method_28_code 1 none ∈ zW := zw_mem 453 (by decide +kernel) (by decide +kernel)
theorem q455 : Cond.methodLink "HerdCords" 169 ⟨"HerdCords$Cord", "open", "(I)I"⟩ ∈ zW := zw_mem 455 (by decide +kernel) (by decide +kernel)
theorem q456 : Cond.methodLink "HerdCords" 173 ⟨"HerdCords$Cord", "tiesAt", "(I)I"⟩ ∈ zW := zw_mem 456 (by decide +kernel) (by decide +kernel)
theorem q457 : Cond.instanceMethod ⟨"HerdCords$Cord", "tiesAt", "(I)I"⟩ ∈ zW := zw_mem 457 (by decide +kernel) (by decide +kernel)
theorem q458 : Cond.selects "HerdCords$Cord" ⟨"HerdCords$Cord", "tiesAt", "(I)I"⟩ ⟨"HerdCords$Cord", "tiesAt", "(I)I"⟩ ∈ zW := zw_mem 458 (by decide +kernel) (by decide +kernel)
theorem q459 : Cond.code ⟨"HerdCords$Cord", "tiesAt", "(I)I"⟩ prog_2_method_5_code 2 (some .int) ∈ zW := zw_mem 459 (by decide +kernel) (by decide +kernel)
theorem q460 : Cond.methodLink "HerdCords" 176 ⟨"java/lang/Math", "max", "(II)I"⟩ ∈ zW := zw_mem 460 (by decide +kernel) (by decide +kernel)
theorem q461 : Cond.static ⟨"java/lang/Math", "max", "(II)I"⟩ ∈ zW := zw_mem 461 (by decide +kernel) (by decide +kernel)
theorem q462 : Cond.code ⟨"java/lang/Math", "max", "(II)I"⟩ prog_13_method_65_code 2 (some .int) ∈ zW := zw_mem 462 (by decide +kernel) (by decide +kernel)
theorem q464 : Cond.methodLink "HerdCords" 333 ⟨"HerdCords", "part", "(II)I"⟩ ∈ zW := zw_mem 464 (by decide +kernel) (by decide +kernel)
theorem q465 : Cond.instanceMethod ⟨"HerdCords", "part", "(II)I"⟩ ∈ zW := zw_mem 465 (by decide +kernel) (by decide +kernel)
theorem q466 : Cond.selects "HerdCords" ⟨"HerdCords", "part", "(II)I"⟩ ⟨"HerdCords", "part", "(II)I"⟩ ∈ zW := zw_mem 466 (by decide +kernel) (by decide +kernel)
theorem q467 : Cond.code ⟨"HerdCords", "part", "(II)I"⟩ prog_1_method_18_code 4 (some .int) ∈ zW := zw_mem 467 (by decide +kernel) (by decide +kernel)
theorem q469 : Cond.methodLink "HerdCords" 336 ⟨"HerdCords", "whyNot", "(II)I"⟩ ∈ zW := zw_mem 469 (by decide +kernel) (by decide +kernel)
theorem q470 : Cond.instanceMethod ⟨"HerdCords", "whyNot", "(II)I"⟩ ∈ zW := zw_mem 470 (by decide +kernel) (by decide +kernel)
theorem q471 : Cond.selects "HerdCords" ⟨"HerdCords", "whyNot", "(II)I"⟩ ⟨"HerdCords", "whyNot", "(II)I"⟩ ∈ zW := zw_mem 471 (by decide +kernel) (by decide +kernel)
theorem q472 : Cond.code ⟨"HerdCords", "whyNot", "(II)I"⟩ prog_1_method_21_code 4 (some .int) ∈ zW := zw_mem 472 (by decide +kernel) (by decide +kernel)
theorem q473 : Cond.methodLink "HerdCords" 57 ⟨"HerdCords", "checkNumber", "(I)V"⟩ ∈ zW := zw_mem 473 (by decide +kernel) (by decide +kernel)
theorem q474 : Cond.static ⟨"HerdCords", "checkNumber", "(I)V"⟩ ∈ zW := zw_mem 474 (by decide +kernel) (by decide +kernel)
theorem q475 : Cond.code ⟨"HerdCords", "checkNumber", "(I)V"⟩ prog_1_method_29_code 1 none ∈ zW := zw_mem 475 (by decide +kernel) (by decide +kernel)
theorem q476 : Cond.constant "HerdCords" 285 (999999) ∈ zW := zw_mem 476 (by decide +kernel) (by decide +kernel)
theorem q478 : Cond.methodLink "HerdCords" 211 ⟨"HerdCords$Cord", "refusalOfPart", "(II)I"⟩ ∈ zW := zw_mem 478 (by decide +kernel) (by decide +kernel)
theorem q479 : Cond.instanceMethod ⟨"HerdCords$Cord", "refusalOfPart", "(II)I"⟩ ∈ zW := zw_mem 479 (by decide +kernel) (by decide +kernel)
theorem q480 : Cond.selects "HerdCords$Cord" ⟨"HerdCords$Cord", "refusalOfPart", "(II)I"⟩ ⟨"HerdCords$Cord", "refusalOfPart", "(II)I"⟩ ∈ zW := zw_mem 480 (by decide +kernel) (by decide +kernel)
theorem q481 : Cond.code ⟨"HerdCords$Cord", "refusalOfPart", "(II)I"⟩ prog_2_method_13_code 3 (some .int) ∈ zW := zw_mem 481 (by decide +kernel) (by decide +kernel)
theorem q482 : Cond.methodLink "HerdCords$Cord" 66 ⟨"HerdCords$Cord", "refusal", "(II)I"⟩ ∈ zW := zw_mem 482 (by decide +kernel) (by decide +kernel)
theorem q483 : Cond.instanceMethod ⟨"HerdCords$Cord", "refusal", "(II)I"⟩ ∈ zW := zw_mem 483 (by decide +kernel) (by decide +kernel)
theorem q484 : Cond.selects "HerdCords$Cord" ⟨"HerdCords$Cord", "refusal", "(II)I"⟩ ⟨"HerdCords$Cord", "refusal", "(II)I"⟩ ∈ zW := zw_mem 484 (by decide +kernel) (by decide +kernel)
theorem q485 : Cond.code ⟨"HerdCords$Cord", "refusal", "(II)I"⟩ prog_2_method_12_code 9 (some .int) ∈ zW := zw_mem 485 (by decide +kernel) (by decide +kernel)
theorem q486 : Cond.constant "HerdCords$Cord" 58 (999999) ∈ zW := zw_mem 486 (by decide +kernel) (by decide +kernel)
theorem q487 : Cond.methodLink "HerdCords$Cord" 59 ⟨"HerdCords$Cord", "loopsFor", "(II)I"⟩ ∈ zW := zw_mem 487 (by decide +kernel) (by decide +kernel)
theorem q489 : Cond.instanceMethod ⟨"HerdCords$Cord", "loopsFor", "(II)I"⟩ ∈ zW := zw_mem 489 (by decide +kernel) (by decide +kernel)
theorem q490 : Cond.code ⟨"HerdCords$Cord", "loopsFor", "(II)I"⟩ prog_2_method_16_code 3 (some .int) ∈ zW := zw_mem 490 (by decide +kernel) (by decide +kernel)
theorem q491 : Cond.methodLink "HerdCords$Cord" 63 ⟨"HerdCords$Cord", "tiesAt", "(I)I"⟩ ∈ zW := zw_mem 491 (by decide +kernel) (by decide +kernel)
theorem q492 : Cond.methodLink "HerdCords" 339 ⟨"HerdCords", "howOften", "(II)I"⟩ ∈ zW := zw_mem 492 (by decide +kernel) (by decide +kernel)
theorem q493 : Cond.instanceMethod ⟨"HerdCords", "howOften", "(II)I"⟩ ∈ zW := zw_mem 493 (by decide +kernel) (by decide +kernel)
theorem q494 : Cond.selects "HerdCords" ⟨"HerdCords", "howOften", "(II)I"⟩ ⟨"HerdCords", "howOften", "(II)I"⟩ ∈ zW := zw_mem 494 (by decide +kernel) (by decide +kernel)
theorem q495 : Cond.code ⟨"HerdCords", "howOften", "(II)I"⟩ prog_1_method_22_code 5 (some .int) ∈ zW := zw_mem 495 (by decide +kernel) (by decide +kernel)
theorem q496 : Cond.methodLink "HerdCords" 214 ⟨"HerdCords$Cord", "copyFrom", "(LHerdCords$Cord;)V"⟩ ∈ zW := zw_mem 496 (by decide +kernel) (by decide +kernel)
theorem q497 : Cond.instanceMethod ⟨"HerdCords$Cord", "copyFrom", "(LHerdCords$Cord;)V"⟩ ∈ zW := zw_mem 497 (by decide +kernel) (by decide +kernel)
theorem q498 : Cond.selects "HerdCords$Cord" ⟨"HerdCords$Cord", "copyFrom", "(LHerdCords$Cord;)V"⟩ ⟨"HerdCords$Cord", "copyFrom", "(LHerdCords$Cord;)V"⟩ ∈ zW := zw_mem 498 (by decide +kernel) (by decide +kernel)
theorem q499 : Cond.code ⟨"HerdCords$Cord", "copyFrom", "(LHerdCords$Cord;)V"⟩ prog_2_method_2_code 2 none ∈ zW := zw_mem 499 (by decide +kernel) (by decide +kernel)
theorem q500 : Cond.methodLink "HerdCords$Cord" 31 ⟨"java/lang/System", "arraycopy", "(Ljava/lang/Object;ILjava/lang/Object;II)V"⟩ ∈ zW := zw_mem 500 (by decide +kernel) (by decide +kernel)
theorem q501 : Cond.static ⟨"java/lang/System", "arraycopy", "(Ljava/lang/Object;ILjava/lang/Object;II)V"⟩ ∈ zW := zw_mem 501 (by decide +kernel) (by decide +kernel)
theorem q502 : Cond.native ⟨"java/lang/System", "arraycopy", "(Ljava/lang/Object;ILjava/lang/Object;II)V"⟩ ∈ zW := zw_mem 502 (by decide +kernel) (by decide +kernel)
theorem q503 : Cond.methodLink "HerdCords" 217 ⟨"HerdCords$Cord", "tieAsPart", "(I)V"⟩ ∈ zW := zw_mem 503 (by decide +kernel) (by decide +kernel)
theorem q504 : Cond.instanceMethod ⟨"HerdCords$Cord", "tieAsPart", "(I)V"⟩ ∈ zW := zw_mem 504 (by decide +kernel) (by decide +kernel)
theorem q505 : Cond.selects "HerdCords$Cord" ⟨"HerdCords$Cord", "tieAsPart", "(I)V"⟩ ⟨"HerdCords$Cord", "tieAsPart", "(I)V"⟩ ∈ zW := zw_mem 505 (by decide +kernel) (by decide +kernel)
theorem q506 : Cond.code ⟨"HerdCords$Cord", "tieAsPart", "(I)V"⟩ prog_2_method_15_code 2 none ∈ zW := zw_mem 506 (by decide +kernel) (by decide +kernel)
theorem q507 : Cond.methodLink "HerdCords$Cord" 69 ⟨"HerdCords$Cord", "tieKnots", "(I)V"⟩ ∈ zW := zw_mem 507 (by decide +kernel) (by decide +kernel)
theorem q508 : Cond.instanceMethod ⟨"HerdCords$Cord", "tieKnots", "(I)V"⟩ ∈ zW := zw_mem 508 (by decide +kernel) (by decide +kernel)
theorem q509 : Cond.selects "HerdCords$Cord" ⟨"HerdCords$Cord", "tieKnots", "(I)V"⟩ ⟨"HerdCords$Cord", "tieKnots", "(I)V"⟩ ∈ zW := zw_mem 509 (by decide +kernel) (by decide +kernel)
theorem q510 : Cond.code ⟨"HerdCords$Cord", "tieKnots", "(I)V"⟩ prog_2_method_14_code 7 none ∈ zW := zw_mem 510 (by decide +kernel) (by decide +kernel)
theorem q511 : Cond.methodLink "HerdCords" 257 ⟨"HerdCords", "byHue", "(I)I"⟩ ∈ zW := zw_mem 511 (by decide +kernel) (by decide +kernel)
theorem q512 : Cond.instanceMethod ⟨"HerdCords", "byHue", "(I)I"⟩ ∈ zW := zw_mem 512 (by decide +kernel) (by decide +kernel)
theorem q513 : Cond.selects "HerdCords" ⟨"HerdCords", "byHue", "(I)I"⟩ ⟨"HerdCords", "byHue", "(I)I"⟩ ∈ zW := zw_mem 513 (by decide +kernel) (by decide +kernel)
theorem q514 : Cond.code ⟨"HerdCords", "byHue", "(I)I"⟩ prog_1_method_20_code 2 (some .int) ∈ zW := zw_mem 514 (by decide +kernel) (by decide +kernel)
theorem q515 : Cond.methodLink "HerdCords" 93 ⟨"HerdCords", "checkHue", "(I)V"⟩ ∈ zW := zw_mem 515 (by decide +kernel) (by decide +kernel)
theorem q516 : Cond.static ⟨"HerdCords", "checkHue", "(I)V"⟩ ∈ zW := zw_mem 516 (by decide +kernel) (by decide +kernel)
theorem q517 : Cond.code ⟨"HerdCords", "checkHue", "(I)V"⟩ prog_1_method_30_code 1 none ∈ zW := zw_mem 517 (by decide +kernel) (by decide +kernel)
theorem q519 : Cond.methodLink "HerdCords" 208 ⟨"HerdCords$Herd", "toldInHue", "(I)I"⟩ ∈ zW := zw_mem 519 (by decide +kernel) (by decide +kernel)
theorem q520 : Cond.instanceMethod ⟨"HerdCords$Herd", "toldInHue", "(I)I"⟩ ∈ zW := zw_mem 520 (by decide +kernel) (by decide +kernel)
theorem q521 : Cond.selects "HerdCords$Herd" ⟨"HerdCords$Herd", "toldInHue", "(I)I"⟩ ⟨"HerdCords$Herd", "toldInHue", "(I)I"⟩ ∈ zW := zw_mem 521 (by decide +kernel) (by decide +kernel)
theorem q522 : Cond.code ⟨"HerdCords$Herd", "toldInHue", "(I)I"⟩ prog_3_method_11_code 7 (some .int) ∈ zW := zw_mem 522 (by decide +kernel) (by decide +kernel)
theorem q523 : Cond.methodLink "HerdCords" 260 ⟨"HerdCords", "cordsFor", "(II)I"⟩ ∈ zW := zw_mem 523 (by decide +kernel) (by decide +kernel)
theorem q524 : Cond.instanceMethod ⟨"HerdCords", "cordsFor", "(II)I"⟩ ∈ zW := zw_mem 524 (by decide +kernel) (by decide +kernel)
theorem q525 : Cond.selects "HerdCords" ⟨"HerdCords", "cordsFor", "(II)I"⟩ ⟨"HerdCords", "cordsFor", "(II)I"⟩ ∈ zW := zw_mem 525 (by decide +kernel) (by decide +kernel)
theorem q526 : Cond.code ⟨"HerdCords", "cordsFor", "(II)I"⟩ prog_1_method_23_code 3 (some .int) ∈ zW := zw_mem 526 (by decide +kernel) (by decide +kernel)
theorem q527 : Cond.constant "HerdCords" 220 (9999999) ∈ zW := zw_mem 527 (by decide +kernel) (by decide +kernel)
theorem q530 : Cond.methodLink "HerdCords" 225 ⟨"HerdCords$Herd", "tellEach", "([I)V"⟩ ∈ zW := zw_mem 530 (by decide +kernel) (by decide +kernel)
theorem q531 : Cond.instanceMethod ⟨"HerdCords$Herd", "tellEach", "([I)V"⟩ ∈ zW := zw_mem 531 (by decide +kernel) (by decide +kernel)
theorem q532 : Cond.selects "HerdCords$Herd" ⟨"HerdCords$Herd", "tellEach", "([I)V"⟩ ⟨"HerdCords$Herd", "tellEach", "([I)V"⟩ ∈ zW := zw_mem 532 (by decide +kernel) (by decide +kernel)
theorem q533 : Cond.code ⟨"HerdCords$Herd", "tellEach", "([I)V"⟩ prog_3_method_9_code 3 none ∈ zW := zw_mem 533 (by decide +kernel) (by decide +kernel)
theorem q534 : Cond.methodLink "HerdCords" 229 ⟨"HerdCords", "bestOfAllSets", "([II)I"⟩ ∈ zW := zw_mem 534 (by decide +kernel) (by decide +kernel)
theorem q535 : Cond.static ⟨"HerdCords", "bestOfAllSets", "([II)I"⟩ ∈ zW := zw_mem 535 (by decide +kernel) (by decide +kernel)
theorem q536 : Cond.code ⟨"HerdCords", "bestOfAllSets", "([II)I"⟩ prog_1_method_35_code 4 (some .int) ∈ zW := zw_mem 536 (by decide +kernel) (by decide +kernel)
theorem q537 : Cond.methodLink "HerdCords" 312 ⟨"HerdCords", "toldBySet", "([II)I"⟩ ∈ zW := zw_mem 537 (by decide +kernel) (by decide +kernel)
theorem q538 : Cond.static ⟨"HerdCords", "toldBySet", "([II)I"⟩ ∈ zW := zw_mem 538 (by decide +kernel) (by decide +kernel)
theorem q539 : Cond.code ⟨"HerdCords", "toldBySet", "([II)I"⟩ prog_1_method_36_code 4 (some .int) ∈ zW := zw_mem 539 (by decide +kernel) (by decide +kernel)
theorem q540 : Cond.methodLink "HerdCords" 315 ⟨"HerdCords", "better", "(II)I"⟩ ∈ zW := zw_mem 540 (by decide +kernel) (by decide +kernel)
theorem q541 : Cond.static ⟨"HerdCords", "better", "(II)I"⟩ ∈ zW := zw_mem 541 (by decide +kernel) (by decide +kernel)
theorem q542 : Cond.code ⟨"HerdCords", "better", "(II)I"⟩ prog_1_method_38_code 3 (some .int) ∈ zW := zw_mem 542 (by decide +kernel) (by decide +kernel)
theorem q543 : Cond.methodLink "HerdCords" 318 ⟨"java/lang/Integer", "bitCount", "(I)I"⟩ ∈ zW := zw_mem 543 (by decide +kernel) (by decide +kernel)
theorem q544 : Cond.static ⟨"java/lang/Integer", "bitCount", "(I)I"⟩ ∈ zW := zw_mem 544 (by decide +kernel) (by decide +kernel)
theorem q545 : Cond.code ⟨"java/lang/Integer", "bitCount", "(I)I"⟩ prog_12_method_49_code 1 (some .int) ∈ zW := zw_mem 545 (by decide +kernel) (by decide +kernel)
theorem q546 : Cond.constant "java/lang/Integer" 265 (1431655765) ∈ zW := zw_mem 546 (by decide +kernel) (by decide +kernel)
theorem q547 : Cond.constant "java/lang/Integer" 266 (858993459) ∈ zW := zw_mem 547 (by decide +kernel) (by decide +kernel)
theorem q548 : Cond.constant "java/lang/Integer" 267 (252645135) ∈ zW := zw_mem 548 (by decide +kernel) (by decide +kernel)
theorem q549 : Cond.methodLink "HerdCords" 323 ⟨"java/lang/Integer", "compare", "(II)I"⟩ ∈ zW := zw_mem 549 (by decide +kernel) (by decide +kernel)
theorem q550 : Cond.static ⟨"java/lang/Integer", "compare", "(II)I"⟩ ∈ zW := zw_mem 550 (by decide +kernel) (by decide +kernel)
theorem q551 : Cond.code ⟨"java/lang/Integer", "compare", "(II)I"⟩ prog_12_method_40_code 2 (some .int) ∈ zW := zw_mem 551 (by decide +kernel) (by decide +kernel)
theorem q552 : Cond.methodLink "HerdCords" 233 ⟨"HerdCords", "bestByTrying", "([IIIII)I"⟩ ∈ zW := zw_mem 552 (by decide +kernel) (by decide +kernel)
theorem q553 : Cond.static ⟨"HerdCords", "bestByTrying", "([IIIII)I"⟩ ∈ zW := zw_mem 553 (by decide +kernel) (by decide +kernel)
theorem q554 : Cond.code ⟨"HerdCords", "bestByTrying", "([IIIII)I"⟩ prog_1_method_37_code 6 (some .int) ∈ zW := zw_mem 554 (by decide +kernel) (by decide +kernel)
theorem q555 : Cond.methodLink "HerdCords" 263 ⟨"HerdCords", "fullest", "()I"⟩ ∈ zW := zw_mem 555 (by decide +kernel) (by decide +kernel)
theorem q556 : Cond.methodLink "HerdCords" 266 ⟨"HerdCords", "closedShare", "()D"⟩ ∈ zW := zw_mem 556 (by decide +kernel) (by decide +kernel)
theorem q557 : Cond.methodLink "HerdCords" 270 ⟨"HerdCords", "bitsOfShare", "(D)J"⟩ ∈ zW := zw_mem 557 (by decide +kernel) (by decide +kernel)
theorem q558 : Cond.static ⟨"HerdCords", "bitsOfShare", "(D)J"⟩ ∈ zW := zw_mem 558 (by decide +kernel) (by decide +kernel)
theorem q559 : Cond.code ⟨"HerdCords", "bitsOfShare", "(D)J"⟩ prog_1_method_41_code 8 (some .long) ∈ zW := zw_mem 559 (by decide +kernel) (by decide +kernel)
theorem q560 : Cond.constantLong "HerdCords" 344 (1023) ∈ zW := zw_mem 560 (by decide +kernel) (by decide +kernel)
theorem q561 : Cond.constantDouble "HerdCords" 346 (4611686018427387904 : UInt64) ∈ zW := zw_mem 561 (by decide +kernel) (by decide +kernel)
theorem q562 : Cond.constantDouble "HerdCords" 348 (4841369599423283200 : UInt64) ∈ zW := zw_mem 562 (by decide +kernel) (by decide +kernel)
theorem q563 : Cond.methodLink "HerdCordsLaw" 83 ⟨"HerdCordsLaw", "tie", "(LHerdCords;II[J)I"⟩ ∈ zW := zw_mem 563 (by decide +kernel) (by decide +kernel)
theorem q564 : Cond.static ⟨"HerdCordsLaw", "tie", "(LHerdCords;II[J)I"⟩ ∈ zW := zw_mem 564 (by decide +kernel) (by decide +kernel)
theorem q565 : Cond.codeWith ⟨"HerdCordsLaw", "tie", "(LHerdCords;II[J)I"⟩ method_3_code 5 (some .int) [(0, 10, 13, 13), (0, 10, 17, 15)] ∈ zW := zw_mem 565 (by decide +kernel) (by decide +kernel)
theorem q566 : Cond.classLink "HerdCordsLaw" 13 "java/lang/IndexOutOfBoundsException" ∈ zW := zw_mem 566 (by decide +kernel) (by decide +kernel)
theorem q567 : Cond.classLink "HerdCordsLaw" 15 "java/lang/IllegalArgumentException" ∈ zW := zw_mem 567 (by decide +kernel) (by decide +kernel)
theorem q568 : Cond.methodLink "HerdCordsLaw" 7 ⟨"HerdCords", "tie", "(II)I"⟩ ∈ zW := zw_mem 568 (by decide +kernel) (by decide +kernel)
theorem q569 : Cond.instanceMethod ⟨"HerdCords", "tie", "(II)I"⟩ ∈ zW := zw_mem 569 (by decide +kernel) (by decide +kernel)
theorem q570 : Cond.selects "HerdCords" ⟨"HerdCords", "tie", "(II)I"⟩ ⟨"HerdCords", "tie", "(II)I"⟩ ∈ zW := zw_mem 570 (by decide +kernel) (by decide +kernel)
theorem q571 : Cond.code ⟨"HerdCords", "tie", "(II)I"⟩ prog_1_method_2_code 4 (some .int) ∈ zW := zw_mem 571 (by decide +kernel) (by decide +kernel)
theorem q572 : Cond.methodLink "HerdCords" 61 ⟨"HerdCords$History", "save", "(LHerdCords$Herd;)V"⟩ ∈ zW := zw_mem 572 (by decide +kernel) (by decide +kernel)
theorem q573 : Cond.instanceMethod ⟨"HerdCords$History", "save", "(LHerdCords$Herd;)V"⟩ ∈ zW := zw_mem 573 (by decide +kernel) (by decide +kernel)
theorem q574 : Cond.selects "HerdCords$History" ⟨"HerdCords$History", "save", "(LHerdCords$Herd;)V"⟩ ⟨"HerdCords$History", "save", "(LHerdCords$Herd;)V"⟩ ∈ zW := zw_mem 574 (by decide +kernel) (by decide +kernel)
theorem q575 : Cond.code ⟨"HerdCords$History", "save", "(LHerdCords$Herd;)V"⟩ prog_4_method_2_code 2 none ∈ zW := zw_mem 575 (by decide +kernel) (by decide +kernel)
theorem q576 : Cond.methodLink "HerdCords$History" 25 ⟨"HerdCords$Herd", "copyFrom", "(LHerdCords$Herd;)V"⟩ ∈ zW := zw_mem 576 (by decide +kernel) (by decide +kernel)
theorem q577 : Cond.instanceMethod ⟨"HerdCords$Herd", "copyFrom", "(LHerdCords$Herd;)V"⟩ ∈ zW := zw_mem 577 (by decide +kernel) (by decide +kernel)
theorem q578 : Cond.selects "HerdCords$Herd" ⟨"HerdCords$Herd", "copyFrom", "(LHerdCords$Herd;)V"⟩ ⟨"HerdCords$Herd", "copyFrom", "(LHerdCords$Herd;)V"⟩ ∈ zW := zw_mem 578 (by decide +kernel) (by decide +kernel)
theorem q579 : Cond.code ⟨"HerdCords$Herd", "copyFrom", "(LHerdCords$Herd;)V"⟩ prog_3_method_2_code 3 none ∈ zW := zw_mem 579 (by decide +kernel) (by decide +kernel)
theorem q580 : Cond.methodLink "HerdCords$Herd" 37 ⟨"HerdCords$Cord", "copyFrom", "(LHerdCords$Cord;)V"⟩ ∈ zW := zw_mem 580 (by decide +kernel) (by decide +kernel)
theorem q581 : Cond.methodLink "HerdCords$History" 29 ⟨"java/lang/Math", "min", "(II)I"⟩ ∈ zW := zw_mem 581 (by decide +kernel) (by decide +kernel)
theorem q582 : Cond.static ⟨"java/lang/Math", "min", "(II)I"⟩ ∈ zW := zw_mem 582 (by decide +kernel) (by decide +kernel)
theorem q583 : Cond.code ⟨"java/lang/Math", "min", "(II)I"⟩ prog_13_method_69_code 2 (some .int) ∈ zW := zw_mem 583 (by decide +kernel) (by decide +kernel)
theorem q584 : Cond.methodLink "HerdCords" 65 ⟨"HerdCords$Herd", "tiePart", "(LHerdCords$Cord;I)I"⟩ ∈ zW := zw_mem 584 (by decide +kernel) (by decide +kernel)
theorem q585 : Cond.instanceMethod ⟨"HerdCords$Herd", "tiePart", "(LHerdCords$Cord;I)I"⟩ ∈ zW := zw_mem 585 (by decide +kernel) (by decide +kernel)
theorem q586 : Cond.selects "HerdCords$Herd" ⟨"HerdCords$Herd", "tiePart", "(LHerdCords$Cord;I)I"⟩ ⟨"HerdCords$Herd", "tiePart", "(LHerdCords$Cord;I)I"⟩ ∈ zW := zw_mem 586 (by decide +kernel) (by decide +kernel)
theorem q587 : Cond.code ⟨"HerdCords$Herd", "tiePart", "(LHerdCords$Cord;I)I"⟩ prog_3_method_3_code 6 (some .int) ∈ zW := zw_mem 587 (by decide +kernel) (by decide +kernel)
theorem q588 : Cond.methodLink "HerdCords$Herd" 41 ⟨"HerdCords$Cord", "refusalOfPart", "(II)I"⟩ ∈ zW := zw_mem 588 (by decide +kernel) (by decide +kernel)
theorem q589 : Cond.methodLink "HerdCords$Herd" 52 ⟨"HerdCords$Cord", "tieAsPart", "(I)V"⟩ ∈ zW := zw_mem 589 (by decide +kernel) (by decide +kernel)
theorem q590 : Cond.methodLink "HerdCords$Herd" 56 ⟨"HerdCords$Herd", "countTied", "(LHerdCords$Cord;II)I"⟩ ∈ zW := zw_mem 590 (by decide +kernel) (by decide +kernel)
theorem q592 : Cond.instanceMethod ⟨"HerdCords$Herd", "countTied", "(LHerdCords$Cord;II)I"⟩ ∈ zW := zw_mem 592 (by decide +kernel) (by decide +kernel)
theorem q593 : Cond.code ⟨"HerdCords$Herd", "countTied", "(LHerdCords$Cord;II)I"⟩ prog_3_method_6_code 5 (some .int) ∈ zW := zw_mem 593 (by decide +kernel) (by decide +kernel)
theorem q594 : Cond.methodLink "HerdCordsLaw" 92 ⟨"HerdCordsLaw", "add", "(LHerdCords;II[J)I"⟩ ∈ zW := zw_mem 594 (by decide +kernel) (by decide +kernel)
theorem q595 : Cond.static ⟨"HerdCordsLaw", "add", "(LHerdCords;II[J)I"⟩ ∈ zW := zw_mem 595 (by decide +kernel) (by decide +kernel)
theorem q596 : Cond.codeWith ⟨"HerdCordsLaw", "add", "(LHerdCords;II[J)I"⟩ method_4_code 5 (some .int) [(0, 10, 13, 13), (0, 10, 17, 15)] ∈ zW := zw_mem 596 (by decide +kernel) (by decide +kernel)
theorem q597 : Cond.methodLink "HerdCordsLaw" 17 ⟨"HerdCords", "add", "(II)I"⟩ ∈ zW := zw_mem 597 (by decide +kernel) (by decide +kernel)
theorem q598 : Cond.instanceMethod ⟨"HerdCords", "add", "(II)I"⟩ ∈ zW := zw_mem 598 (by decide +kernel) (by decide +kernel)
theorem q599 : Cond.selects "HerdCords" ⟨"HerdCords", "add", "(II)I"⟩ ⟨"HerdCords", "add", "(II)I"⟩ ∈ zW := zw_mem 599 (by decide +kernel) (by decide +kernel)
theorem q600 : Cond.code ⟨"HerdCords", "add", "(II)I"⟩ prog_1_method_3_code 5 (some .int) ∈ zW := zw_mem 600 (by decide +kernel) (by decide +kernel)
theorem q602 : Cond.methodLink "HerdCords" 76 ⟨"HerdCords$Herd", "tieCord", "(LHerdCords$Cord;LHerdCords$Cord;)I"⟩ ∈ zW := zw_mem 602 (by decide +kernel) (by decide +kernel)
theorem q603 : Cond.instanceMethod ⟨"HerdCords$Herd", "tieCord", "(LHerdCords$Cord;LHerdCords$Cord;)I"⟩ ∈ zW := zw_mem 603 (by decide +kernel) (by decide +kernel)
theorem q604 : Cond.selects "HerdCords$Herd" ⟨"HerdCords$Herd", "tieCord", "(LHerdCords$Cord;LHerdCords$Cord;)I"⟩ ⟨"HerdCords$Herd", "tieCord", "(LHerdCords$Cord;LHerdCords$Cord;)I"⟩ ∈ zW := zw_mem 604 (by decide +kernel) (by decide +kernel)
theorem q605 : Cond.code ⟨"HerdCords$Herd", "tieCord", "(LHerdCords$Cord;LHerdCords$Cord;)I"⟩ prog_3_method_4_code 4 (some .int) ∈ zW := zw_mem 605 (by decide +kernel) (by decide +kernel)
theorem q606 : Cond.methodLink "HerdCords$Herd" 63 ⟨"HerdCords$Herd", "tiePart", "(LHerdCords$Cord;I)I"⟩ ∈ zW := zw_mem 606 (by decide +kernel) (by decide +kernel)
theorem q607 : Cond.methodLink "HerdCordsLaw" 95 ⟨"HerdCordsLaw", "slip", "(LHerdCords;II[J)I"⟩ ∈ zW := zw_mem 607 (by decide +kernel) (by decide +kernel)
theorem q608 : Cond.static ⟨"HerdCordsLaw", "slip", "(LHerdCords;II[J)I"⟩ ∈ zW := zw_mem 608 (by decide +kernel) (by decide +kernel)
theorem q609 : Cond.codeWith ⟨"HerdCordsLaw", "slip", "(LHerdCords;II[J)I"⟩ method_5_code 5 (some .int) [(0, 10, 13, 13)] ∈ zW := zw_mem 609 (by decide +kernel) (by decide +kernel)
theorem q610 : Cond.methodLink "HerdCordsLaw" 20 ⟨"HerdCords", "slip", "(II)I"⟩ ∈ zW := zw_mem 610 (by decide +kernel) (by decide +kernel)
theorem q611 : Cond.instanceMethod ⟨"HerdCords", "slip", "(II)I"⟩ ∈ zW := zw_mem 611 (by decide +kernel) (by decide +kernel)
theorem q612 : Cond.selects "HerdCords" ⟨"HerdCords", "slip", "(II)I"⟩ ⟨"HerdCords", "slip", "(II)I"⟩ ∈ zW := zw_mem 612 (by decide +kernel) (by decide +kernel)
theorem q613 : Cond.code ⟨"HerdCords", "slip", "(II)I"⟩ prog_1_method_4_code 4 (some .int) ∈ zW := zw_mem 613 (by decide +kernel) (by decide +kernel)
theorem q614 : Cond.methodLink "HerdCords" 83 ⟨"HerdCords$Herd", "loosen", "(LHerdCords$Cord;I)I"⟩ ∈ zW := zw_mem 614 (by decide +kernel) (by decide +kernel)
theorem q615 : Cond.instanceMethod ⟨"HerdCords$Herd", "loosen", "(LHerdCords$Cord;I)I"⟩ ∈ zW := zw_mem 615 (by decide +kernel) (by decide +kernel)
theorem q616 : Cond.selects "HerdCords$Herd" ⟨"HerdCords$Herd", "loosen", "(LHerdCords$Cord;I)I"⟩ ⟨"HerdCords$Herd", "loosen", "(LHerdCords$Cord;I)I"⟩ ∈ zW := zw_mem 616 (by decide +kernel) (by decide +kernel)
theorem q617 : Cond.code ⟨"HerdCords$Herd", "loosen", "(LHerdCords$Cord;I)I"⟩ prog_3_method_7_code 3 (some .int) ∈ zW := zw_mem 617 (by decide +kernel) (by decide +kernel)
theorem q618 : Cond.methodLink "HerdCords$Herd" 76 ⟨"HerdCords$Cord", "open", "(I)I"⟩ ∈ zW := zw_mem 618 (by decide +kernel) (by decide +kernel)
theorem q619 : Cond.methodLink "HerdCordsLaw" 98 ⟨"HerdCordsLaw", "mend", "(LHerdCords;I[J)I"⟩ ∈ zW := zw_mem 619 (by decide +kernel) (by decide +kernel)
theorem q620 : Cond.static ⟨"HerdCordsLaw", "mend", "(LHerdCords;I[J)I"⟩ ∈ zW := zw_mem 620 (by decide +kernel) (by decide +kernel)
theorem q621 : Cond.codeWith ⟨"HerdCordsLaw", "mend", "(LHerdCords;I[J)I"⟩ method_6_code 4 (some .int) [(0, 9, 12, 13)] ∈ zW := zw_mem 621 (by decide +kernel) (by decide +kernel)
theorem q622 : Cond.methodLink "HerdCordsLaw" 23 ⟨"HerdCords", "mend", "(I)I"⟩ ∈ zW := zw_mem 622 (by decide +kernel) (by decide +kernel)
theorem q623 : Cond.instanceMethod ⟨"HerdCords", "mend", "(I)I"⟩ ∈ zW := zw_mem 623 (by decide +kernel) (by decide +kernel)
theorem q624 : Cond.selects "HerdCords" ⟨"HerdCords", "mend", "(I)I"⟩ ⟨"HerdCords", "mend", "(I)I"⟩ ∈ zW := zw_mem 624 (by decide +kernel) (by decide +kernel)
theorem q625 : Cond.code ⟨"HerdCords", "mend", "(I)I"⟩ prog_1_method_5_code 3 (some .int) ∈ zW := zw_mem 625 (by decide +kernel) (by decide +kernel)
theorem q626 : Cond.methodLink "HerdCords" 86 ⟨"HerdCords$Herd", "tieLack", "(LHerdCords$Cord;)I"⟩ ∈ zW := zw_mem 626 (by decide +kernel) (by decide +kernel)
theorem q627 : Cond.instanceMethod ⟨"HerdCords$Herd", "tieLack", "(LHerdCords$Cord;)I"⟩ ∈ zW := zw_mem 627 (by decide +kernel) (by decide +kernel)
theorem q628 : Cond.selects "HerdCords$Herd" ⟨"HerdCords$Herd", "tieLack", "(LHerdCords$Cord;)I"⟩ ⟨"HerdCords$Herd", "tieLack", "(LHerdCords$Cord;)I"⟩ ∈ zW := zw_mem 628 (by decide +kernel) (by decide +kernel)
theorem q629 : Cond.code ⟨"HerdCords$Herd", "tieLack", "(LHerdCords$Cord;)I"⟩ prog_3_method_5_code 6 (some .int) ∈ zW := zw_mem 629 (by decide +kernel) (by decide +kernel)
theorem q630 : Cond.methodLink "HerdCords$Herd" 70 ⟨"HerdCords$Cord", "refusal", "(II)I"⟩ ∈ zW := zw_mem 630 (by decide +kernel) (by decide +kernel)
theorem q631 : Cond.methodLink "HerdCords$Herd" 73 ⟨"HerdCords$Cord", "tieKnots", "(I)V"⟩ ∈ zW := zw_mem 631 (by decide +kernel) (by decide +kernel)
theorem q632 : Cond.methodLink "HerdCordsLaw" 102 ⟨"HerdCordsLaw", "renew", "(LHerdCords;I[J)I"⟩ ∈ zW := zw_mem 632 (by decide +kernel) (by decide +kernel)
theorem q633 : Cond.static ⟨"HerdCordsLaw", "renew", "(LHerdCords;I[J)I"⟩ ∈ zW := zw_mem 633 (by decide +kernel) (by decide +kernel)
theorem q634 : Cond.codeWith ⟨"HerdCordsLaw", "renew", "(LHerdCords;I[J)I"⟩ method_7_code 4 (some .int) [(0, 9, 12, 13)] ∈ zW := zw_mem 634 (by decide +kernel) (by decide +kernel)
theorem q635 : Cond.methodLink "HerdCordsLaw" 27 ⟨"HerdCords", "renew", "(I)I"⟩ ∈ zW := zw_mem 635 (by decide +kernel) (by decide +kernel)
theorem q636 : Cond.instanceMethod ⟨"HerdCords", "renew", "(I)I"⟩ ∈ zW := zw_mem 636 (by decide +kernel) (by decide +kernel)
theorem q637 : Cond.selects "HerdCords" ⟨"HerdCords", "renew", "(I)I"⟩ ⟨"HerdCords", "renew", "(I)I"⟩ ∈ zW := zw_mem 637 (by decide +kernel) (by decide +kernel)
theorem q638 : Cond.code ⟨"HerdCords", "renew", "(I)I"⟩ prog_1_method_6_code 3 (some .int) ∈ zW := zw_mem 638 (by decide +kernel) (by decide +kernel)
theorem q639 : Cond.methodLink "HerdCords" 90 ⟨"HerdCords$Herd", "replace", "(LHerdCords$Cord;)I"⟩ ∈ zW := zw_mem 639 (by decide +kernel) (by decide +kernel)
theorem q640 : Cond.instanceMethod ⟨"HerdCords$Herd", "replace", "(LHerdCords$Cord;)I"⟩ ∈ zW := zw_mem 640 (by decide +kernel) (by decide +kernel)
theorem q641 : Cond.selects "HerdCords$Herd" ⟨"HerdCords$Herd", "replace", "(LHerdCords$Cord;)I"⟩ ⟨"HerdCords$Herd", "replace", "(LHerdCords$Cord;)I"⟩ ∈ zW := zw_mem 641 (by decide +kernel) (by decide +kernel)
theorem q642 : Cond.code ⟨"HerdCords$Herd", "replace", "(LHerdCords$Cord;)I"⟩ prog_3_method_8_code 3 (some .int) ∈ zW := zw_mem 642 (by decide +kernel) (by decide +kernel)
theorem q643 : Cond.methodLink "HerdCords$Herd" 88 ⟨"HerdCords$Cord", "becomeNew", "()V"⟩ ∈ zW := zw_mem 643 (by decide +kernel) (by decide +kernel)
theorem q644 : Cond.instanceMethod ⟨"HerdCords$Cord", "becomeNew", "()V"⟩ ∈ zW := zw_mem 644 (by decide +kernel) (by decide +kernel)
theorem q645 : Cond.selects "HerdCords$Cord" ⟨"HerdCords$Cord", "becomeNew", "()V"⟩ ⟨"HerdCords$Cord", "becomeNew", "()V"⟩ ∈ zW := zw_mem 645 (by decide +kernel) (by decide +kernel)
theorem q646 : Cond.code ⟨"HerdCords$Cord", "becomeNew", "()V"⟩ prog_2_method_3_code 2 none ∈ zW := zw_mem 646 (by decide +kernel) (by decide +kernel)
theorem q647 : Cond.methodLink "HerdCordsLaw" 105 ⟨"HerdCordsLaw", "dye", "(LHerdCords;II[J)I"⟩ ∈ zW := zw_mem 647 (by decide +kernel) (by decide +kernel)
theorem q648 : Cond.static ⟨"HerdCordsLaw", "dye", "(LHerdCords;II[J)I"⟩ ∈ zW := zw_mem 648 (by decide +kernel) (by decide +kernel)
theorem q649 : Cond.codeWith ⟨"HerdCordsLaw", "dye", "(LHerdCords;II[J)I"⟩ method_8_code 5 (some .int) [(0, 10, 13, 13), (0, 10, 17, 15)] ∈ zW := zw_mem 649 (by decide +kernel) (by decide +kernel)
theorem q650 : Cond.methodLink "HerdCordsLaw" 30 ⟨"HerdCords", "dye", "(II)I"⟩ ∈ zW := zw_mem 650 (by decide +kernel) (by decide +kernel)
theorem q651 : Cond.instanceMethod ⟨"HerdCords", "dye", "(II)I"⟩ ∈ zW := zw_mem 651 (by decide +kernel) (by decide +kernel)
theorem q652 : Cond.selects "HerdCords" ⟨"HerdCords", "dye", "(II)I"⟩ ⟨"HerdCords", "dye", "(II)I"⟩ ∈ zW := zw_mem 652 (by decide +kernel) (by decide +kernel)
theorem q653 : Cond.code ⟨"HerdCords", "dye", "(II)I"⟩ prog_1_method_7_code 5 (some .int) ∈ zW := zw_mem 653 (by decide +kernel) (by decide +kernel)
theorem q654 : Cond.methodLink "HerdCordsLaw" 108 ⟨"HerdCordsLaw", "set", "(LHerdCords;I[J)I"⟩ ∈ zW := zw_mem 654 (by decide +kernel) (by decide +kernel)
theorem q655 : Cond.static ⟨"HerdCordsLaw", "set", "(LHerdCords;I[J)I"⟩ ∈ zW := zw_mem 655 (by decide +kernel) (by decide +kernel)
theorem q656 : Cond.codeWith ⟨"HerdCordsLaw", "set", "(LHerdCords;I[J)I"⟩ method_9_code 4 (some .int) [(0, 9, 12, 15)] ∈ zW := zw_mem 656 (by decide +kernel) (by decide +kernel)
theorem q657 : Cond.methodLink "HerdCordsLaw" 33 ⟨"HerdCords", "set", "(I)I"⟩ ∈ zW := zw_mem 657 (by decide +kernel) (by decide +kernel)
theorem q658 : Cond.instanceMethod ⟨"HerdCords", "set", "(I)I"⟩ ∈ zW := zw_mem 658 (by decide +kernel) (by decide +kernel)
theorem q659 : Cond.selects "HerdCords" ⟨"HerdCords", "set", "(I)I"⟩ ⟨"HerdCords", "set", "(I)I"⟩ ∈ zW := zw_mem 659 (by decide +kernel) (by decide +kernel)
theorem q660 : Cond.code ⟨"HerdCords", "set", "(I)I"⟩ prog_1_method_8_code 3 (some .int) ∈ zW := zw_mem 660 (by decide +kernel) (by decide +kernel)
theorem q662 : Cond.methodLink "HerdCordsLaw" 111 ⟨"HerdCordsLaw", "append", "(LHerdCords;I[J)I"⟩ ∈ zW := zw_mem 662 (by decide +kernel) (by decide +kernel)
theorem q663 : Cond.static ⟨"HerdCordsLaw", "append", "(LHerdCords;I[J)I"⟩ ∈ zW := zw_mem 663 (by decide +kernel) (by decide +kernel)
theorem q664 : Cond.codeWith ⟨"HerdCordsLaw", "append", "(LHerdCords;I[J)I"⟩ method_10_code 4 (some .int) [(0, 9, 12, 15), (0, 9, 15, 39)] ∈ zW := zw_mem 664 (by decide +kernel) (by decide +kernel)
theorem q665 : Cond.classLink "HerdCordsLaw" 39 "java/lang/IllegalStateException" ∈ zW := zw_mem 665 (by decide +kernel) (by decide +kernel)
theorem q666 : Cond.methodLink "HerdCordsLaw" 36 ⟨"HerdCords", "append", "(I)I"⟩ ∈ zW := zw_mem 666 (by decide +kernel) (by decide +kernel)
theorem q667 : Cond.instanceMethod ⟨"HerdCords", "append", "(I)I"⟩ ∈ zW := zw_mem 667 (by decide +kernel) (by decide +kernel)
theorem q668 : Cond.selects "HerdCords" ⟨"HerdCords", "append", "(I)I"⟩ ⟨"HerdCords", "append", "(I)I"⟩ ∈ zW := zw_mem 668 (by decide +kernel) (by decide +kernel)
theorem q669 : Cond.code ⟨"HerdCords", "append", "(I)I"⟩ prog_1_method_9_code 2 (some .int) ∈ zW := zw_mem 669 (by decide +kernel) (by decide +kernel)
theorem q671 : Cond.classLink "HerdCords" 106 "java/lang/IllegalStateException" ∈ zW := zw_mem 671 (by decide +kernel) (by decide +kernel)
theorem q672 : Cond.instantiable "java/lang/IllegalStateException" 6 ∈ zW := zw_mem 672 (by decide +kernel) (by decide +kernel)
theorem q681 : Cond.methodLink "HerdCords" 110 ⟨"java/lang/IllegalStateException", "<init>", "(Ljava/lang/String;)V"⟩ ∈ zW := zw_mem 681 (by decide +kernel) (by decide +kernel)
theorem q682 : Cond.instanceMethod ⟨"java/lang/IllegalStateException", "<init>", "(Ljava/lang/String;)V"⟩ ∈ zW := zw_mem 682 (by decide +kernel) (by decide +kernel)
theorem q683 : Cond.code ⟨"java/lang/IllegalStateException", "<init>", "(Ljava/lang/String;)V"⟩ prog_10_method_2_code 2 none ∈ zW := zw_mem 683 (by decide +kernel) (by decide +kernel)
theorem q687 : Cond.methodLink "HerdCordsLaw" 122 ⟨"HerdCordsLaw", "run", "(LHerdCords;[J)I"⟩ ∈ zW := zw_mem 687 (by decide +kernel) (by decide +kernel)
theorem q688 : Cond.static ⟨"HerdCordsLaw", "run", "(LHerdCords;[J)I"⟩ ∈ zW := zw_mem 688 (by decide +kernel) (by decide +kernel)
theorem q689 : Cond.codeWith ⟨"HerdCordsLaw", "run", "(LHerdCords;[J)I"⟩ method_11_code 3 (some .int) [(0, 8, 11, 15)] ∈ zW := zw_mem 689 (by decide +kernel) (by decide +kernel)
theorem q690 : Cond.methodLink "HerdCordsLaw" 41 ⟨"HerdCords", "run", "()I"⟩ ∈ zW := zw_mem 690 (by decide +kernel) (by decide +kernel)
theorem q691 : Cond.instanceMethod ⟨"HerdCords", "run", "()I"⟩ ∈ zW := zw_mem 691 (by decide +kernel) (by decide +kernel)
theorem q692 : Cond.selects "HerdCords" ⟨"HerdCords", "run", "()I"⟩ ⟨"HerdCords", "run", "()I"⟩ ∈ zW := zw_mem 692 (by decide +kernel) (by decide +kernel)
theorem q693 : Cond.code ⟨"HerdCords", "run", "()I"⟩ prog_1_method_12_code 2 (some .int) ∈ zW := zw_mem 693 (by decide +kernel) (by decide +kernel)
theorem q694 : Cond.methodLink "HerdCords" 115 ⟨"HerdCords$OrderReader", "hasWholeOrder", "()Z"⟩ ∈ zW := zw_mem 694 (by decide +kernel) (by decide +kernel)
theorem q695 : Cond.instanceMethod ⟨"HerdCords$OrderReader", "hasWholeOrder", "()Z"⟩ ∈ zW := zw_mem 695 (by decide +kernel) (by decide +kernel)
theorem q696 : Cond.selects "HerdCords$OrderReader" ⟨"HerdCords$OrderReader", "hasWholeOrder", "()Z"⟩ ⟨"HerdCords$OrderReader", "hasWholeOrder", "()Z"⟩ ∈ zW := zw_mem 696 (by decide +kernel) (by decide +kernel)
theorem q697 : Cond.code ⟨"HerdCords$OrderReader", "hasWholeOrder", "()Z"⟩ prog_5_method_3_code 1 (some .boolean) ∈ zW := zw_mem 697 (by decide +kernel) (by decide +kernel)
theorem q699 : Cond.methodLink "HerdCords" 121 ⟨"HerdCords", "doOrders", "()I"⟩ ∈ zW := zw_mem 699 (by decide +kernel) (by decide +kernel)
theorem q701 : Cond.instanceMethod ⟨"HerdCords", "doOrders", "()I"⟩ ∈ zW := zw_mem 701 (by decide +kernel) (by decide +kernel)
theorem q702 : Cond.code ⟨"HerdCords", "doOrders", "()I"⟩ prog_1_method_33_code 3 (some .int) ∈ zW := zw_mem 702 (by decide +kernel) (by decide +kernel)
theorem q703 : Cond.methodLink "HerdCords" 299 ⟨"HerdCords", "doOrderRead", "()Z"⟩ ∈ zW := zw_mem 703 (by decide +kernel) (by decide +kernel)
theorem q705 : Cond.instanceMethod ⟨"HerdCords", "doOrderRead", "()Z"⟩ ∈ zW := zw_mem 705 (by decide +kernel) (by decide +kernel)
theorem q706 : Cond.code ⟨"HerdCords", "doOrderRead", "()Z"⟩ prog_1_method_34_code 3 (some .boolean) ∈ zW := zw_mem 706 (by decide +kernel) (by decide +kernel)
theorem q707 : Cond.methodLink "HerdCordsLaw" 126 ⟨"HerdCordsLaw", "keep", "(LHerdCords;I[J)I"⟩ ∈ zW := zw_mem 707 (by decide +kernel) (by decide +kernel)
theorem q708 : Cond.static ⟨"HerdCordsLaw", "keep", "(LHerdCords;I[J)I"⟩ ∈ zW := zw_mem 708 (by decide +kernel) (by decide +kernel)
theorem q709 : Cond.codeWith ⟨"HerdCordsLaw", "keep", "(LHerdCords;I[J)I"⟩ method_12_code 4 (some .int) [(0, 9, 12, 15)] ∈ zW := zw_mem 709 (by decide +kernel) (by decide +kernel)
theorem q710 : Cond.methodLink "HerdCordsLaw" 45 ⟨"HerdCords", "keep", "(I)I"⟩ ∈ zW := zw_mem 710 (by decide +kernel) (by decide +kernel)
theorem q711 : Cond.instanceMethod ⟨"HerdCords", "keep", "(I)I"⟩ ∈ zW := zw_mem 711 (by decide +kernel) (by decide +kernel)
theorem q712 : Cond.selects "HerdCords" ⟨"HerdCords", "keep", "(I)I"⟩ ⟨"HerdCords", "keep", "(I)I"⟩ ∈ zW := zw_mem 712 (by decide +kernel) (by decide +kernel)
theorem q713 : Cond.code ⟨"HerdCords", "keep", "(I)I"⟩ prog_1_method_13_code 3 (some .int) ∈ zW := zw_mem 713 (by decide +kernel) (by decide +kernel)
theorem q714 : Cond.methodLink "HerdCords" 124 ⟨"HerdCords", "checkSlot", "(I)V"⟩ ∈ zW := zw_mem 714 (by decide +kernel) (by decide +kernel)
theorem q715 : Cond.static ⟨"HerdCords", "checkSlot", "(I)V"⟩ ∈ zW := zw_mem 715 (by decide +kernel) (by decide +kernel)
theorem q716 : Cond.code ⟨"HerdCords", "checkSlot", "(I)V"⟩ prog_1_method_31_code 1 none ∈ zW := zw_mem 716 (by decide +kernel) (by decide +kernel)
theorem q718 : Cond.methodLink "HerdCords" 127 ⟨"HerdCords$Herd", "copyFrom", "(LHerdCords$Herd;)V"⟩ ∈ zW := zw_mem 718 (by decide +kernel) (by decide +kernel)
theorem q719 : Cond.methodLink "HerdCordsLaw" 129 ⟨"HerdCordsLaw", "goBack", "(LHerdCords;I[J)I"⟩ ∈ zW := zw_mem 719 (by decide +kernel) (by decide +kernel)
theorem q720 : Cond.static ⟨"HerdCordsLaw", "goBack", "(LHerdCords;I[J)I"⟩ ∈ zW := zw_mem 720 (by decide +kernel) (by decide +kernel)
theorem q721 : Cond.codeWith ⟨"HerdCordsLaw", "goBack", "(LHerdCords;I[J)I"⟩ method_13_code 4 (some .int) [(0, 9, 12, 15), (0, 9, 15, 39)] ∈ zW := zw_mem 721 (by decide +kernel) (by decide +kernel)
theorem q722 : Cond.methodLink "HerdCordsLaw" 48 ⟨"HerdCords", "goBack", "(I)I"⟩ ∈ zW := zw_mem 722 (by decide +kernel) (by decide +kernel)
theorem q723 : Cond.instanceMethod ⟨"HerdCords", "goBack", "(I)I"⟩ ∈ zW := zw_mem 723 (by decide +kernel) (by decide +kernel)
theorem q724 : Cond.selects "HerdCords" ⟨"HerdCords", "goBack", "(I)I"⟩ ⟨"HerdCords", "goBack", "(I)I"⟩ ∈ zW := zw_mem 724 (by decide +kernel) (by decide +kernel)
theorem q725 : Cond.code ⟨"HerdCords", "goBack", "(I)I"⟩ prog_1_method_14_code 3 (some .int) ∈ zW := zw_mem 725 (by decide +kernel) (by decide +kernel)
theorem q727 : Cond.methodLink "HerdCordsLaw" 132 ⟨"HerdCordsLaw", "undo", "(LHerdCords;[J)I"⟩ ∈ zW := zw_mem 727 (by decide +kernel) (by decide +kernel)
theorem q728 : Cond.static ⟨"HerdCordsLaw", "undo", "(LHerdCords;[J)I"⟩ ∈ zW := zw_mem 728 (by decide +kernel) (by decide +kernel)
theorem q729 : Cond.codeWith ⟨"HerdCordsLaw", "undo", "(LHerdCords;[J)I"⟩ method_14_code 3 (some .int) [(0, 8, 11, 39)] ∈ zW := zw_mem 729 (by decide +kernel) (by decide +kernel)
theorem q730 : Cond.methodLink "HerdCordsLaw" 51 ⟨"HerdCords", "undo", "()I"⟩ ∈ zW := zw_mem 730 (by decide +kernel) (by decide +kernel)
theorem q731 : Cond.instanceMethod ⟨"HerdCords", "undo", "()I"⟩ ∈ zW := zw_mem 731 (by decide +kernel) (by decide +kernel)
theorem q732 : Cond.selects "HerdCords" ⟨"HerdCords", "undo", "()I"⟩ ⟨"HerdCords", "undo", "()I"⟩ ∈ zW := zw_mem 732 (by decide +kernel) (by decide +kernel)
theorem q733 : Cond.code ⟨"HerdCords", "undo", "()I"⟩ prog_1_method_15_code 1 (some .int) ∈ zW := zw_mem 733 (by decide +kernel) (by decide +kernel)
theorem q735 : Cond.methodLink "HerdCords" 140 ⟨"HerdCords$History", "restore", "(LHerdCords$Herd;)V"⟩ ∈ zW := zw_mem 735 (by decide +kernel) (by decide +kernel)
theorem q736 : Cond.instanceMethod ⟨"HerdCords$History", "restore", "(LHerdCords$Herd;)V"⟩ ∈ zW := zw_mem 736 (by decide +kernel) (by decide +kernel)
theorem q737 : Cond.selects "HerdCords$History" ⟨"HerdCords$History", "restore", "(LHerdCords$Herd;)V"⟩ ⟨"HerdCords$History", "restore", "(LHerdCords$Herd;)V"⟩ ∈ zW := zw_mem 737 (by decide +kernel) (by decide +kernel)
theorem q738 : Cond.code ⟨"HerdCords$History", "restore", "(LHerdCords$Herd;)V"⟩ prog_4_method_3_code 2 none ∈ zW := zw_mem 738 (by decide +kernel) (by decide +kernel)
theorem q739 : Cond.methodLink "HerdCordsLaw" 135 ⟨"HerdCordsLaw", "cordOf", "(LHerdCords;II[J)I"⟩ ∈ zW := zw_mem 739 (by decide +kernel) (by decide +kernel)
theorem q740 : Cond.static ⟨"HerdCordsLaw", "cordOf", "(LHerdCords;II[J)I"⟩ ∈ zW := zw_mem 740 (by decide +kernel) (by decide +kernel)
theorem q741 : Cond.codeWith ⟨"HerdCordsLaw", "cordOf", "(LHerdCords;II[J)I"⟩ method_15_code 5 (some .int) [(0, 10, 13, 13), (0, 10, 17, 15)] ∈ zW := zw_mem 741 (by decide +kernel) (by decide +kernel)
theorem q742 : Cond.methodLink "HerdCordsLaw" 54 ⟨"HerdCords", "cordOf", "(II)I"⟩ ∈ zW := zw_mem 742 (by decide +kernel) (by decide +kernel)
theorem q743 : Cond.methodLink "HerdCordsLaw" 138 ⟨"HerdCordsLaw", "placeOf", "(LHerdCords;III[J)I"⟩ ∈ zW := zw_mem 743 (by decide +kernel) (by decide +kernel)
theorem q744 : Cond.static ⟨"HerdCordsLaw", "placeOf", "(LHerdCords;III[J)I"⟩ ∈ zW := zw_mem 744 (by decide +kernel) (by decide +kernel)
theorem q745 : Cond.codeWith ⟨"HerdCordsLaw", "placeOf", "(LHerdCords;III[J)I"⟩ method_16_code 6 (some .int) [(0, 12, 15, 13), (0, 12, 19, 15)] ∈ zW := zw_mem 745 (by decide +kernel) (by decide +kernel)
theorem q746 : Cond.methodLink "HerdCordsLaw" 57 ⟨"HerdCords", "placeOf", "(III)I"⟩ ∈ zW := zw_mem 746 (by decide +kernel) (by decide +kernel)
theorem q747 : Cond.methodLink "HerdCordsLaw" 142 ⟨"HerdCordsLaw", "part", "(LHerdCords;II[J)I"⟩ ∈ zW := zw_mem 747 (by decide +kernel) (by decide +kernel)
theorem q748 : Cond.static ⟨"HerdCordsLaw", "part", "(LHerdCords;II[J)I"⟩ ∈ zW := zw_mem 748 (by decide +kernel) (by decide +kernel)
theorem q749 : Cond.codeWith ⟨"HerdCordsLaw", "part", "(LHerdCords;II[J)I"⟩ method_17_code 5 (some .int) [(0, 10, 13, 13), (0, 10, 17, 15)] ∈ zW := zw_mem 749 (by decide +kernel) (by decide +kernel)
theorem q750 : Cond.methodLink "HerdCordsLaw" 61 ⟨"HerdCords", "part", "(II)I"⟩ ∈ zW := zw_mem 750 (by decide +kernel) (by decide +kernel)
theorem q751 : Cond.methodLink "HerdCordsLaw" 145 ⟨"HerdCordsLaw", "count", "(LHerdCords;I[J)I"⟩ ∈ zW := zw_mem 751 (by decide +kernel) (by decide +kernel)
theorem q752 : Cond.static ⟨"HerdCordsLaw", "count", "(LHerdCords;I[J)I"⟩ ∈ zW := zw_mem 752 (by decide +kernel) (by decide +kernel)
theorem q753 : Cond.codeWith ⟨"HerdCordsLaw", "count", "(LHerdCords;I[J)I"⟩ method_18_code 4 (some .int) [(0, 9, 12, 15)] ∈ zW := zw_mem 753 (by decide +kernel) (by decide +kernel)
theorem q754 : Cond.methodLink "HerdCordsLaw" 64 ⟨"HerdCords", "count", "(I)I"⟩ ∈ zW := zw_mem 754 (by decide +kernel) (by decide +kernel)
theorem q755 : Cond.methodLink "HerdCordsLaw" 148 ⟨"HerdCordsLaw", "byHue", "(LHerdCords;I[J)I"⟩ ∈ zW := zw_mem 755 (by decide +kernel) (by decide +kernel)
theorem q756 : Cond.static ⟨"HerdCordsLaw", "byHue", "(LHerdCords;I[J)I"⟩ ∈ zW := zw_mem 756 (by decide +kernel) (by decide +kernel)
theorem q757 : Cond.codeWith ⟨"HerdCordsLaw", "byHue", "(LHerdCords;I[J)I"⟩ method_19_code 4 (some .int) [(0, 9, 12, 15)] ∈ zW := zw_mem 757 (by decide +kernel) (by decide +kernel)
theorem q758 : Cond.methodLink "HerdCordsLaw" 67 ⟨"HerdCords", "byHue", "(I)I"⟩ ∈ zW := zw_mem 758 (by decide +kernel) (by decide +kernel)
theorem q759 : Cond.methodLink "HerdCordsLaw" 151 ⟨"HerdCordsLaw", "whyNot", "(LHerdCords;II[J)I"⟩ ∈ zW := zw_mem 759 (by decide +kernel) (by decide +kernel)
theorem q760 : Cond.static ⟨"HerdCordsLaw", "whyNot", "(LHerdCords;II[J)I"⟩ ∈ zW := zw_mem 760 (by decide +kernel) (by decide +kernel)
theorem q761 : Cond.codeWith ⟨"HerdCordsLaw", "whyNot", "(LHerdCords;II[J)I"⟩ method_20_code 5 (some .int) [(0, 10, 13, 13), (0, 10, 17, 15)] ∈ zW := zw_mem 761 (by decide +kernel) (by decide +kernel)
theorem q762 : Cond.methodLink "HerdCordsLaw" 70 ⟨"HerdCords", "whyNot", "(II)I"⟩ ∈ zW := zw_mem 762 (by decide +kernel) (by decide +kernel)
theorem q763 : Cond.methodLink "HerdCordsLaw" 154 ⟨"HerdCordsLaw", "howOften", "(LHerdCords;II[J)I"⟩ ∈ zW := zw_mem 763 (by decide +kernel) (by decide +kernel)
theorem q764 : Cond.static ⟨"HerdCordsLaw", "howOften", "(LHerdCords;II[J)I"⟩ ∈ zW := zw_mem 764 (by decide +kernel) (by decide +kernel)
theorem q765 : Cond.codeWith ⟨"HerdCordsLaw", "howOften", "(LHerdCords;II[J)I"⟩ method_21_code 5 (some .int) [(0, 10, 13, 13), (0, 10, 17, 15)] ∈ zW := zw_mem 765 (by decide +kernel) (by decide +kernel)
theorem q766 : Cond.methodLink "HerdCordsLaw" 73 ⟨"HerdCords", "howOften", "(II)I"⟩ ∈ zW := zw_mem 766 (by decide +kernel) (by decide +kernel)
theorem q767 : Cond.methodLink "HerdCordsLaw" 157 ⟨"HerdCordsLaw", "cordsFor", "(LHerdCords;II[J)I"⟩ ∈ zW := zw_mem 767 (by decide +kernel) (by decide +kernel)
theorem q768 : Cond.static ⟨"HerdCordsLaw", "cordsFor", "(LHerdCords;II[J)I"⟩ ∈ zW := zw_mem 768 (by decide +kernel) (by decide +kernel)
theorem q769 : Cond.codeWith ⟨"HerdCordsLaw", "cordsFor", "(LHerdCords;II[J)I"⟩ method_22_code 5 (some .int) [(0, 10, 13, 15)] ∈ zW := zw_mem 769 (by decide +kernel) (by decide +kernel)
theorem q770 : Cond.methodLink "HerdCordsLaw" 76 ⟨"HerdCords", "cordsFor", "(II)I"⟩ ∈ zW := zw_mem 770 (by decide +kernel) (by decide +kernel)
theorem q771 : Cond.classLink "HerdCordsLaw" 80 "HerdCordsModel" ∈ zW := zw_mem 771 (by decide +kernel) (by decide +kernel)
theorem q772 : Cond.instantiable "HerdCordsModel" 12 ∈ zW := zw_mem 772 (by decide +kernel) (by decide +kernel)
theorem q773 : Cond.methodLink "HerdCordsLaw" 82 ⟨"HerdCordsModel", "<init>", "()V"⟩ ∈ zW := zw_mem 773 (by decide +kernel) (by decide +kernel)
theorem q774 : Cond.instanceMethod ⟨"HerdCordsModel", "<init>", "()V"⟩ ∈ zW := zw_mem 774 (by decide +kernel) (by decide +kernel)
theorem q775 : Cond.code ⟨"HerdCordsModel", "<init>", "()V"⟩ prog_7_method_1_code 1 none ∈ zW := zw_mem 775 (by decide +kernel) (by decide +kernel)
theorem q776 : Cond.methodLink "HerdCordsModel" 1 ⟨"java/lang/Object", "<init>", "()V"⟩ ∈ zW := zw_mem 776 (by decide +kernel) (by decide +kernel)
theorem q777 : Cond.fieldLink "HerdCordsModel" 35 "HerdCordsModel" "thrown" "I" ∈ zW := zw_mem 777 (by decide +kernel) (by decide +kernel)
theorem q778 : Cond.fieldLink "HerdCordsModel" 7 "HerdCordsModel" "s" "[I" ∈ zW := zw_mem 778 (by decide +kernel) (by decide +kernel)
theorem q779 : Cond.fieldLink "HerdCordsModel" 13 "HerdCordsModel" "aside" "[I" ∈ zW := zw_mem 779 (by decide +kernel) (by decide +kernel)
theorem q780 : Cond.fieldLink "HerdCordsModel" 16 "HerdCordsModel" "slots" "[I" ∈ zW := zw_mem 780 (by decide +kernel) (by decide +kernel)
theorem q781 : Cond.fieldLink "HerdCordsModel" 19 "HerdCordsModel" "isKept" "[Z" ∈ zW := zw_mem 781 (by decide +kernel) (by decide +kernel)
theorem q782 : Cond.fieldLink "HerdCordsModel" 23 "HerdCordsModel" "saved" "[I" ∈ zW := zw_mem 782 (by decide +kernel) (by decide +kernel)
theorem q783 : Cond.fieldLink "HerdCordsModel" 47 "HerdCordsModel" "savedMany" "I" ∈ zW := zw_mem 783 (by decide +kernel) (by decide +kernel)
theorem q784 : Cond.fieldLink "HerdCordsModel" 26 "HerdCordsModel" "text" "[I" ∈ zW := zw_mem 784 (by decide +kernel) (by decide +kernel)
theorem q785 : Cond.fieldLink "HerdCordsModel" 104 "HerdCordsModel" "length" "I" ∈ zW := zw_mem 785 (by decide +kernel) (by decide +kernel)
theorem q786 : Cond.fieldLink "HerdCordsModel" 29 "HerdCordsModel" "knots" "[I" ∈ zW := zw_mem 786 (by decide +kernel) (by decide +kernel)
theorem q787 : Cond.fieldLink "HerdCordsModel" 32 "HerdCordsModel" "loops" "[I" ∈ zW := zw_mem 787 (by decide +kernel) (by decide +kernel)
theorem q788 : Cond.fieldLink "HerdCordsModel" 185 "HerdCordsModel" "digested" "J" ∈ zW := zw_mem 788 (by decide +kernel) (by decide +kernel)
theorem q814 : Cond.arrayClass FieldType.boolean ∈ zW := zw_mem 814 (by decide +kernel) (by decide +kernel)
theorem q815 : Cond.methodLink "HerdCordsLaw" 89 ⟨"HerdCordsModel", "thrown", "()I"⟩ ∈ zW := zw_mem 815 (by decide +kernel) (by decide +kernel)
theorem q816 : Cond.instanceMethod ⟨"HerdCordsModel", "thrown", "()I"⟩ ∈ zW := zw_mem 816 (by decide +kernel) (by decide +kernel)
theorem q817 : Cond.selects "HerdCordsModel" ⟨"HerdCordsModel", "thrown", "()I"⟩ ⟨"HerdCordsModel", "thrown", "()I"⟩ ∈ zW := zw_mem 817 (by decide +kernel) (by decide +kernel)
theorem q818 : Cond.code ⟨"HerdCordsModel", "thrown", "()I"⟩ prog_7_method_2_code 1 (some .int) ∈ zW := zw_mem 818 (by decide +kernel) (by decide +kernel)
theorem q819 : Cond.methodLink "HerdCordsLaw" 88 ⟨"HerdCordsModel", "tie", "(II)I"⟩ ∈ zW := zw_mem 819 (by decide +kernel) (by decide +kernel)
theorem q820 : Cond.instanceMethod ⟨"HerdCordsModel", "tie", "(II)I"⟩ ∈ zW := zw_mem 820 (by decide +kernel) (by decide +kernel)
theorem q821 : Cond.selects "HerdCordsModel" ⟨"HerdCordsModel", "tie", "(II)I"⟩ ⟨"HerdCordsModel", "tie", "(II)I"⟩ ∈ zW := zw_mem 821 (by decide +kernel) (by decide +kernel)
theorem q822 : Cond.code ⟨"HerdCordsModel", "tie", "(II)I"⟩ prog_7_method_24_code 3 (some .int) ∈ zW := zw_mem 822 (by decide +kernel) (by decide +kernel)
theorem q823 : Cond.methodLink "HerdCordsModel" 82 ⟨"HerdCordsModel", "isCord", "(I)Z"⟩ ∈ zW := zw_mem 823 (by decide +kernel) (by decide +kernel)
theorem q824 : Cond.static ⟨"HerdCordsModel", "isCord", "(I)Z"⟩ ∈ zW := zw_mem 824 (by decide +kernel) (by decide +kernel)
theorem q825 : Cond.code ⟨"HerdCordsModel", "isCord", "(I)Z"⟩ prog_7_method_4_code 1 (some .boolean) ∈ zW := zw_mem 825 (by decide +kernel) (by decide +kernel)
theorem q826 : Cond.methodLink "HerdCordsModel" 39 ⟨"HerdCordsModel", "in", "(III)Z"⟩ ∈ zW := zw_mem 826 (by decide +kernel) (by decide +kernel)
theorem q827 : Cond.static ⟨"HerdCordsModel", "in", "(III)Z"⟩ ∈ zW := zw_mem 827 (by decide +kernel) (by decide +kernel)
theorem q828 : Cond.code ⟨"HerdCordsModel", "in", "(III)Z"⟩ prog_7_method_3_code 3 (some .boolean) ∈ zW := zw_mem 828 (by decide +kernel) (by decide +kernel)
theorem q829 : Cond.constant "HerdCordsModel" 66 (999999) ∈ zW := zw_mem 829 (by decide +kernel) (by decide +kernel)
theorem q830 : Cond.methodLink "HerdCordsModel" 86 ⟨"HerdCordsModel", "holds", "(I)Z"⟩ ∈ zW := zw_mem 830 (by decide +kernel) (by decide +kernel)
theorem q832 : Cond.instanceMethod ⟨"HerdCordsModel", "holds", "(I)Z"⟩ ∈ zW := zw_mem 832 (by decide +kernel) (by decide +kernel)
theorem q833 : Cond.code ⟨"HerdCordsModel", "holds", "(I)Z"⟩ prog_7_method_5_code 2 (some .boolean) ∈ zW := zw_mem 833 (by decide +kernel) (by decide +kernel)
theorem q834 : Cond.methodLink "HerdCordsModel" 89 ⟨"HerdCordsModel", "save", "()V"⟩ ∈ zW := zw_mem 834 (by decide +kernel) (by decide +kernel)
theorem q836 : Cond.instanceMethod ⟨"HerdCordsModel", "save", "()V"⟩ ∈ zW := zw_mem 836 (by decide +kernel) (by decide +kernel)
theorem q837 : Cond.code ⟨"HerdCordsModel", "save", "()V"⟩ prog_7_method_8_code 2 none ∈ zW := zw_mem 837 (by decide +kernel) (by decide +kernel)
theorem q838 : Cond.methodLink "HerdCordsModel" 76 ⟨"HerdCordsModel", "tiesPart", "(II)I"⟩ ∈ zW := zw_mem 838 (by decide +kernel) (by decide +kernel)
theorem q840 : Cond.instanceMethod ⟨"HerdCordsModel", "tiesPart", "(II)I"⟩ ∈ zW := zw_mem 840 (by decide +kernel) (by decide +kernel)
theorem q841 : Cond.code ⟨"HerdCordsModel", "tiesPart", "(II)I"⟩ prog_7_method_20_code 4 (some .int) ∈ zW := zw_mem 841 (by decide +kernel) (by decide +kernel)
theorem q842 : Cond.methodLink "HerdCordsModel" 70 ⟨"HerdCordsModel", "reasonFor", "(II)I"⟩ ∈ zW := zw_mem 842 (by decide +kernel) (by decide +kernel)
theorem q844 : Cond.instanceMethod ⟨"HerdCordsModel", "reasonFor", "(II)I"⟩ ∈ zW := zw_mem 844 (by decide +kernel) (by decide +kernel)
theorem q845 : Cond.code ⟨"HerdCordsModel", "reasonFor", "(II)I"⟩ prog_7_method_19_code 3 (some .int) ∈ zW := zw_mem 845 (by decide +kernel) (by decide +kernel)
theorem q846 : Cond.methodLink "HerdCordsModel" 50 ⟨"HerdCordsModel", "of", "(II)I"⟩ ∈ zW := zw_mem 846 (by decide +kernel) (by decide +kernel)
theorem q848 : Cond.instanceMethod ⟨"HerdCordsModel", "of", "(II)I"⟩ ∈ zW := zw_mem 848 (by decide +kernel) (by decide +kernel)
theorem q849 : Cond.code ⟨"HerdCordsModel", "of", "(II)I"⟩ prog_7_method_7_code 3 (some .int) ∈ zW := zw_mem 849 (by decide +kernel) (by decide +kernel)
theorem q850 : Cond.methodLink "HerdCordsModel" 43 ⟨"HerdCordsModel", "at", "(II)I"⟩ ∈ zW := zw_mem 850 (by decide +kernel) (by decide +kernel)
theorem q851 : Cond.static ⟨"HerdCordsModel", "at", "(II)I"⟩ ∈ zW := zw_mem 851 (by decide +kernel) (by decide +kernel)
theorem q852 : Cond.code ⟨"HerdCordsModel", "at", "(II)I"⟩ prog_7_method_6_code 2 (some .int) ∈ zW := zw_mem 852 (by decide +kernel) (by decide +kernel)
theorem q853 : Cond.methodLink "HerdCordsModel" 67 ⟨"HerdCordsModel", "lays", "(II)I"⟩ ∈ zW := zw_mem 853 (by decide +kernel) (by decide +kernel)
theorem q855 : Cond.instanceMethod ⟨"HerdCordsModel", "lays", "(II)I"⟩ ∈ zW := zw_mem 855 (by decide +kernel) (by decide +kernel)
theorem q856 : Cond.code ⟨"HerdCordsModel", "lays", "(II)I"⟩ prog_7_method_17_code 9 (some .int) ∈ zW := zw_mem 856 (by decide +kernel) (by decide +kernel)
theorem q857 : Cond.methodLink "HerdCordsModel" 60 ⟨"HerdCordsModel", "told", "(I)I"⟩ ∈ zW := zw_mem 857 (by decide +kernel) (by decide +kernel)
theorem q859 : Cond.instanceMethod ⟨"HerdCordsModel", "told", "(I)I"⟩ ∈ zW := zw_mem 859 (by decide +kernel) (by decide +kernel)
theorem q860 : Cond.code ⟨"HerdCordsModel", "told", "(I)I"⟩ prog_7_method_12_code 4 (some .int) ∈ zW := zw_mem 860 (by decide +kernel) (by decide +kernel)
theorem q861 : Cond.methodLink "HerdCordsModel" 53 ⟨"HerdCordsModel", "open", "(II)I"⟩ ∈ zW := zw_mem 861 (by decide +kernel) (by decide +kernel)
theorem q863 : Cond.instanceMethod ⟨"HerdCordsModel", "open", "(II)I"⟩ ∈ zW := zw_mem 863 (by decide +kernel) (by decide +kernel)
theorem q864 : Cond.code ⟨"HerdCordsModel", "open", "(II)I"⟩ prog_7_method_11_code 3 (some .int) ∈ zW := zw_mem 864 (by decide +kernel) (by decide +kernel)
theorem q865 : Cond.methodLink "HerdCordsModel" 73 ⟨"HerdCordsModel", "knits", "(I)I"⟩ ∈ zW := zw_mem 865 (by decide +kernel) (by decide +kernel)
theorem q867 : Cond.instanceMethod ⟨"HerdCordsModel", "knits", "(I)I"⟩ ∈ zW := zw_mem 867 (by decide +kernel) (by decide +kernel)
theorem q868 : Cond.code ⟨"HerdCordsModel", "knits", "(I)I"⟩ prog_7_method_18_code 4 (some .int) ∈ zW := zw_mem 868 (by decide +kernel) (by decide +kernel)
theorem q869 : Cond.methodLink "HerdCordsLaw" 94 ⟨"HerdCordsModel", "add", "(II)I"⟩ ∈ zW := zw_mem 869 (by decide +kernel) (by decide +kernel)
theorem q870 : Cond.instanceMethod ⟨"HerdCordsModel", "add", "(II)I"⟩ ∈ zW := zw_mem 870 (by decide +kernel) (by decide +kernel)
theorem q871 : Cond.selects "HerdCordsModel" ⟨"HerdCordsModel", "add", "(II)I"⟩ ⟨"HerdCordsModel", "add", "(II)I"⟩ ∈ zW := zw_mem 871 (by decide +kernel) (by decide +kernel)
theorem q872 : Cond.code ⟨"HerdCordsModel", "add", "(II)I"⟩ prog_7_method_25_code 3 (some .int) ∈ zW := zw_mem 872 (by decide +kernel) (by decide +kernel)
theorem q873 : Cond.methodLink "HerdCordsModel" 92 ⟨"HerdCordsModel", "adds", "(II)I"⟩ ∈ zW := zw_mem 873 (by decide +kernel) (by decide +kernel)
theorem q875 : Cond.instanceMethod ⟨"HerdCordsModel", "adds", "(II)I"⟩ ∈ zW := zw_mem 875 (by decide +kernel) (by decide +kernel)
theorem q876 : Cond.code ⟨"HerdCordsModel", "adds", "(II)I"⟩ prog_7_method_21_code 3 (some .int) ∈ zW := zw_mem 876 (by decide +kernel) (by decide +kernel)
theorem q877 : Cond.methodLink "HerdCordsLaw" 97 ⟨"HerdCordsModel", "slip", "(II)I"⟩ ∈ zW := zw_mem 877 (by decide +kernel) (by decide +kernel)
theorem q878 : Cond.instanceMethod ⟨"HerdCordsModel", "slip", "(II)I"⟩ ∈ zW := zw_mem 878 (by decide +kernel) (by decide +kernel)
theorem q879 : Cond.selects "HerdCordsModel" ⟨"HerdCordsModel", "slip", "(II)I"⟩ ⟨"HerdCordsModel", "slip", "(II)I"⟩ ∈ zW := zw_mem 879 (by decide +kernel) (by decide +kernel)
theorem q880 : Cond.code ⟨"HerdCordsModel", "slip", "(II)I"⟩ prog_7_method_26_code 3 (some .int) ∈ zW := zw_mem 880 (by decide +kernel) (by decide +kernel)
theorem q881 : Cond.methodLink "HerdCordsModel" 95 ⟨"HerdCordsModel", "slips", "(II)I"⟩ ∈ zW := zw_mem 881 (by decide +kernel) (by decide +kernel)
theorem q883 : Cond.instanceMethod ⟨"HerdCordsModel", "slips", "(II)I"⟩ ∈ zW := zw_mem 883 (by decide +kernel) (by decide +kernel)
theorem q884 : Cond.code ⟨"HerdCordsModel", "slips", "(II)I"⟩ prog_7_method_22_code 3 (some .int) ∈ zW := zw_mem 884 (by decide +kernel) (by decide +kernel)
theorem q885 : Cond.methodLink "HerdCordsLaw" 101 ⟨"HerdCordsModel", "mend", "(I)I"⟩ ∈ zW := zw_mem 885 (by decide +kernel) (by decide +kernel)
theorem q886 : Cond.instanceMethod ⟨"HerdCordsModel", "mend", "(I)I"⟩ ∈ zW := zw_mem 886 (by decide +kernel) (by decide +kernel)
theorem q887 : Cond.selects "HerdCordsModel" ⟨"HerdCordsModel", "mend", "(I)I"⟩ ⟨"HerdCordsModel", "mend", "(I)I"⟩ ∈ zW := zw_mem 887 (by decide +kernel) (by decide +kernel)
theorem q888 : Cond.code ⟨"HerdCordsModel", "mend", "(I)I"⟩ prog_7_method_27_code 2 (some .int) ∈ zW := zw_mem 888 (by decide +kernel) (by decide +kernel)
theorem q889 : Cond.methodLink "HerdCordsModel" 98 ⟨"HerdCordsModel", "mends", "(I)I"⟩ ∈ zW := zw_mem 889 (by decide +kernel) (by decide +kernel)
theorem q891 : Cond.instanceMethod ⟨"HerdCordsModel", "mends", "(I)I"⟩ ∈ zW := zw_mem 891 (by decide +kernel) (by decide +kernel)
theorem q892 : Cond.code ⟨"HerdCordsModel", "mends", "(I)I"⟩ prog_7_method_23_code 5 (some .int) ∈ zW := zw_mem 892 (by decide +kernel) (by decide +kernel)
theorem q893 : Cond.methodLink "HerdCordsModel" 79 ⟨"HerdCordsModel", "lacks", "(I)I"⟩ ∈ zW := zw_mem 893 (by decide +kernel) (by decide +kernel)
theorem q895 : Cond.instanceMethod ⟨"HerdCordsModel", "lacks", "(I)I"⟩ ∈ zW := zw_mem 895 (by decide +kernel) (by decide +kernel)
theorem q896 : Cond.code ⟨"HerdCordsModel", "lacks", "(I)I"⟩ prog_7_method_14_code 2 (some .int) ∈ zW := zw_mem 896 (by decide +kernel) (by decide +kernel)
theorem q897 : Cond.methodLink "HerdCordsModel" 56 ⟨"HerdCordsModel", "partsTold", "(I)I"⟩ ∈ zW := zw_mem 897 (by decide +kernel) (by decide +kernel)
theorem q899 : Cond.instanceMethod ⟨"HerdCordsModel", "partsTold", "(I)I"⟩ ∈ zW := zw_mem 899 (by decide +kernel) (by decide +kernel)
theorem q900 : Cond.code ⟨"HerdCordsModel", "partsTold", "(I)I"⟩ prog_7_method_13_code 4 (some .int) ∈ zW := zw_mem 900 (by decide +kernel) (by decide +kernel)
theorem q901 : Cond.methodLink "HerdCordsLaw" 104 ⟨"HerdCordsModel", "renew", "(I)I"⟩ ∈ zW := zw_mem 901 (by decide +kernel) (by decide +kernel)
theorem q902 : Cond.instanceMethod ⟨"HerdCordsModel", "renew", "(I)I"⟩ ∈ zW := zw_mem 902 (by decide +kernel) (by decide +kernel)
theorem q903 : Cond.selects "HerdCordsModel" ⟨"HerdCordsModel", "renew", "(I)I"⟩ ⟨"HerdCordsModel", "renew", "(I)I"⟩ ∈ zW := zw_mem 903 (by decide +kernel) (by decide +kernel)
theorem q904 : Cond.code ⟨"HerdCordsModel", "renew", "(I)I"⟩ prog_7_method_28_code 4 (some .int) ∈ zW := zw_mem 904 (by decide +kernel) (by decide +kernel)
theorem q905 : Cond.methodLink "HerdCordsModel" 63 ⟨"HerdCordsModel", "ties", "(I)I"⟩ ∈ zW := zw_mem 905 (by decide +kernel) (by decide +kernel)
theorem q907 : Cond.instanceMethod ⟨"HerdCordsModel", "ties", "(I)I"⟩ ∈ zW := zw_mem 907 (by decide +kernel) (by decide +kernel)
theorem q908 : Cond.code ⟨"HerdCordsModel", "ties", "(I)I"⟩ prog_7_method_15_code 4 (some .int) ∈ zW := zw_mem 908 (by decide +kernel) (by decide +kernel)
theorem q909 : Cond.methodLink "HerdCordsLaw" 107 ⟨"HerdCordsModel", "dye", "(II)I"⟩ ∈ zW := zw_mem 909 (by decide +kernel) (by decide +kernel)
theorem q910 : Cond.instanceMethod ⟨"HerdCordsModel", "dye", "(II)I"⟩ ∈ zW := zw_mem 910 (by decide +kernel) (by decide +kernel)
theorem q911 : Cond.selects "HerdCordsModel" ⟨"HerdCordsModel", "dye", "(II)I"⟩ ⟨"HerdCordsModel", "dye", "(II)I"⟩ ∈ zW := zw_mem 911 (by decide +kernel) (by decide +kernel)
theorem q912 : Cond.code ⟨"HerdCordsModel", "dye", "(II)I"⟩ prog_7_method_30_code 3 (some .int) ∈ zW := zw_mem 912 (by decide +kernel) (by decide +kernel)
theorem q913 : Cond.methodLink "HerdCordsModel" 101 ⟨"HerdCordsModel", "puts", "(II)I"⟩ ∈ zW := zw_mem 913 (by decide +kernel) (by decide +kernel)
theorem q915 : Cond.instanceMethod ⟨"HerdCordsModel", "puts", "(II)I"⟩ ∈ zW := zw_mem 915 (by decide +kernel) (by decide +kernel)
theorem q916 : Cond.code ⟨"HerdCordsModel", "puts", "(II)I"⟩ prog_7_method_29_code 4 (some .int) ∈ zW := zw_mem 916 (by decide +kernel) (by decide +kernel)
theorem q917 : Cond.methodLink "HerdCordsLaw" 110 ⟨"HerdCordsModel", "set", "(I)I"⟩ ∈ zW := zw_mem 917 (by decide +kernel) (by decide +kernel)
theorem q918 : Cond.instanceMethod ⟨"HerdCordsModel", "set", "(I)I"⟩ ∈ zW := zw_mem 918 (by decide +kernel) (by decide +kernel)
theorem q919 : Cond.selects "HerdCordsModel" ⟨"HerdCordsModel", "set", "(I)I"⟩ ⟨"HerdCordsModel", "set", "(I)I"⟩ ∈ zW := zw_mem 919 (by decide +kernel) (by decide +kernel)
theorem q920 : Cond.code ⟨"HerdCordsModel", "set", "(I)I"⟩ prog_7_method_31_code 2 (some .int) ∈ zW := zw_mem 920 (by decide +kernel) (by decide +kernel)
theorem q921 : Cond.methodLink "HerdCordsLaw" 113 ⟨"HerdCordsModel", "append", "(I)I"⟩ ∈ zW := zw_mem 921 (by decide +kernel) (by decide +kernel)
theorem q922 : Cond.instanceMethod ⟨"HerdCordsModel", "append", "(I)I"⟩ ∈ zW := zw_mem 922 (by decide +kernel) (by decide +kernel)
theorem q923 : Cond.selects "HerdCordsModel" ⟨"HerdCordsModel", "append", "(I)I"⟩ ⟨"HerdCordsModel", "append", "(I)I"⟩ ∈ zW := zw_mem 923 (by decide +kernel) (by decide +kernel)
theorem q924 : Cond.code ⟨"HerdCordsModel", "append", "(I)I"⟩ prog_7_method_32_code 2 (some .int) ∈ zW := zw_mem 924 (by decide +kernel) (by decide +kernel)
theorem q925 : Cond.methodLink "HerdCordsLaw" 117 ⟨"HerdCordsModel", "clearBuffer", "()I"⟩ ∈ zW := zw_mem 925 (by decide +kernel) (by decide +kernel)
theorem q926 : Cond.instanceMethod ⟨"HerdCordsModel", "clearBuffer", "()I"⟩ ∈ zW := zw_mem 926 (by decide +kernel) (by decide +kernel)
theorem q927 : Cond.selects "HerdCordsModel" ⟨"HerdCordsModel", "clearBuffer", "()I"⟩ ⟨"HerdCordsModel", "clearBuffer", "()I"⟩ ∈ zW := zw_mem 927 (by decide +kernel) (by decide +kernel)
theorem q928 : Cond.code ⟨"HerdCordsModel", "clearBuffer", "()I"⟩ prog_7_method_33_code 2 (some .int) ∈ zW := zw_mem 928 (by decide +kernel) (by decide +kernel)
theorem q929 : Cond.methodLink "HerdCordsLaw" 121 ⟨"HerdCordsModel", "firstError", "()I"⟩ ∈ zW := zw_mem 929 (by decide +kernel) (by decide +kernel)
theorem q930 : Cond.instanceMethod ⟨"HerdCordsModel", "firstError", "()I"⟩ ∈ zW := zw_mem 930 (by decide +kernel) (by decide +kernel)
theorem q931 : Cond.selects "HerdCordsModel" ⟨"HerdCordsModel", "firstError", "()I"⟩ ⟨"HerdCordsModel", "firstError", "()I"⟩ ∈ zW := zw_mem 931 (by decide +kernel) (by decide +kernel)
theorem q932 : Cond.code ⟨"HerdCordsModel", "firstError", "()I"⟩ prog_7_method_39_code 1 (some .int) ∈ zW := zw_mem 932 (by decide +kernel) (by decide +kernel)
theorem q933 : Cond.methodLink "HerdCordsModel" 119 ⟨"HerdCordsModel", "wrong", "()I"⟩ ∈ zW := zw_mem 933 (by decide +kernel) (by decide +kernel)
theorem q935 : Cond.instanceMethod ⟨"HerdCordsModel", "wrong", "()I"⟩ ∈ zW := zw_mem 935 (by decide +kernel) (by decide +kernel)
theorem q936 : Cond.code ⟨"HerdCordsModel", "wrong", "()I"⟩ prog_7_method_38_code 3 (some .int) ∈ zW := zw_mem 936 (by decide +kernel) (by decide +kernel)
theorem q937 : Cond.methodLink "HerdCordsModel" 116 ⟨"HerdCordsModel", "behindOrder", "(I)I"⟩ ∈ zW := zw_mem 937 (by decide +kernel) (by decide +kernel)
theorem q939 : Cond.instanceMethod ⟨"HerdCordsModel", "behindOrder", "(I)I"⟩ ∈ zW := zw_mem 939 (by decide +kernel) (by decide +kernel)
theorem q940 : Cond.code ⟨"HerdCordsModel", "behindOrder", "(I)I"⟩ prog_7_method_37_code 4 (some .int) ∈ zW := zw_mem 940 (by decide +kernel) (by decide +kernel)
theorem q941 : Cond.methodLink "HerdCordsModel" 110 ⟨"HerdCordsModel", "digitAt", "(I)I"⟩ ∈ zW := zw_mem 941 (by decide +kernel) (by decide +kernel)
theorem q943 : Cond.instanceMethod ⟨"HerdCordsModel", "digitAt", "(I)I"⟩ ∈ zW := zw_mem 943 (by decide +kernel) (by decide +kernel)
theorem q944 : Cond.code ⟨"HerdCordsModel", "digitAt", "(I)I"⟩ prog_7_method_35_code 2 (some .int) ∈ zW := zw_mem 944 (by decide +kernel) (by decide +kernel)
theorem q945 : Cond.methodLink "HerdCordsModel" 107 ⟨"HerdCordsModel", "charAt", "(I)I"⟩ ∈ zW := zw_mem 945 (by decide +kernel) (by decide +kernel)
theorem q947 : Cond.instanceMethod ⟨"HerdCordsModel", "charAt", "(I)I"⟩ ∈ zW := zw_mem 947 (by decide +kernel) (by decide +kernel)
theorem q948 : Cond.code ⟨"HerdCordsModel", "charAt", "(I)I"⟩ prog_7_method_34_code 2 (some .int) ∈ zW := zw_mem 948 (by decide +kernel) (by decide +kernel)
theorem q949 : Cond.methodLink "HerdCordsModel" 113 ⟨"HerdCordsModel", "behindNumber", "(I)I"⟩ ∈ zW := zw_mem 949 (by decide +kernel) (by decide +kernel)
theorem q951 : Cond.instanceMethod ⟨"HerdCordsModel", "behindNumber", "(I)I"⟩ ∈ zW := zw_mem 951 (by decide +kernel) (by decide +kernel)
theorem q952 : Cond.code ⟨"HerdCordsModel", "behindNumber", "(I)I"⟩ prog_7_method_36_code 3 (some .int) ∈ zW := zw_mem 952 (by decide +kernel) (by decide +kernel)
theorem q953 : Cond.methodLink "HerdCordsLaw" 125 ⟨"HerdCordsModel", "run", "()I"⟩ ∈ zW := zw_mem 953 (by decide +kernel) (by decide +kernel)
theorem q954 : Cond.instanceMethod ⟨"HerdCordsModel", "run", "()I"⟩ ∈ zW := zw_mem 954 (by decide +kernel) (by decide +kernel)
theorem q955 : Cond.selects "HerdCordsModel" ⟨"HerdCordsModel", "run", "()I"⟩ ⟨"HerdCordsModel", "run", "()I"⟩ ∈ zW := zw_mem 955 (by decide +kernel) (by decide +kernel)
theorem q956 : Cond.code ⟨"HerdCordsModel", "run", "()I"⟩ prog_7_method_41_code 5 (some .int) ∈ zW := zw_mem 956 (by decide +kernel) (by decide +kernel)
theorem q957 : Cond.methodLink "HerdCordsModel" 123 ⟨"HerdCordsModel", "does", "(II)Z"⟩ ∈ zW := zw_mem 957 (by decide +kernel) (by decide +kernel)
theorem q959 : Cond.instanceMethod ⟨"HerdCordsModel", "does", "(II)Z"⟩ ∈ zW := zw_mem 959 (by decide +kernel) (by decide +kernel)
theorem q960 : Cond.code ⟨"HerdCordsModel", "does", "(II)Z"⟩ prog_7_method_40_code 6 (some .boolean) ∈ zW := zw_mem 960 (by decide +kernel) (by decide +kernel)
theorem q961 : Cond.methodLink "HerdCordsLaw" 128 ⟨"HerdCordsModel", "keep", "(I)I"⟩ ∈ zW := zw_mem 961 (by decide +kernel) (by decide +kernel)
theorem q962 : Cond.instanceMethod ⟨"HerdCordsModel", "keep", "(I)I"⟩ ∈ zW := zw_mem 962 (by decide +kernel) (by decide +kernel)
theorem q963 : Cond.selects "HerdCordsModel" ⟨"HerdCordsModel", "keep", "(I)I"⟩ ⟨"HerdCordsModel", "keep", "(I)I"⟩ ∈ zW := zw_mem 963 (by decide +kernel) (by decide +kernel)
theorem q964 : Cond.code ⟨"HerdCordsModel", "keep", "(I)I"⟩ prog_7_method_42_code 3 (some .int) ∈ zW := zw_mem 964 (by decide +kernel) (by decide +kernel)
theorem q965 : Cond.methodLink "HerdCordsModel" 127 ⟨"HerdCordsModel", "allTies", "()I"⟩ ∈ zW := zw_mem 965 (by decide +kernel) (by decide +kernel)
theorem q967 : Cond.instanceMethod ⟨"HerdCordsModel", "allTies", "()I"⟩ ∈ zW := zw_mem 967 (by decide +kernel) (by decide +kernel)
theorem q968 : Cond.code ⟨"HerdCordsModel", "allTies", "()I"⟩ prog_7_method_16_code 3 (some .int) ∈ zW := zw_mem 968 (by decide +kernel) (by decide +kernel)
theorem q969 : Cond.methodLink "HerdCordsLaw" 131 ⟨"HerdCordsModel", "goBack", "(I)I"⟩ ∈ zW := zw_mem 969 (by decide +kernel) (by decide +kernel)
theorem q970 : Cond.instanceMethod ⟨"HerdCordsModel", "goBack", "(I)I"⟩ ∈ zW := zw_mem 970 (by decide +kernel) (by decide +kernel)
theorem q971 : Cond.selects "HerdCordsModel" ⟨"HerdCordsModel", "goBack", "(I)I"⟩ ⟨"HerdCordsModel", "goBack", "(I)I"⟩ ∈ zW := zw_mem 971 (by decide +kernel) (by decide +kernel)
theorem q972 : Cond.code ⟨"HerdCordsModel", "goBack", "(I)I"⟩ prog_7_method_43_code 4 (some .int) ∈ zW := zw_mem 972 (by decide +kernel) (by decide +kernel)
theorem q973 : Cond.methodLink "HerdCordsLaw" 134 ⟨"HerdCordsModel", "undo", "()I"⟩ ∈ zW := zw_mem 973 (by decide +kernel) (by decide +kernel)
theorem q974 : Cond.instanceMethod ⟨"HerdCordsModel", "undo", "()I"⟩ ∈ zW := zw_mem 974 (by decide +kernel) (by decide +kernel)
theorem q975 : Cond.selects "HerdCordsModel" ⟨"HerdCordsModel", "undo", "()I"⟩ ⟨"HerdCordsModel", "undo", "()I"⟩ ∈ zW := zw_mem 975 (by decide +kernel) (by decide +kernel)
theorem q976 : Cond.code ⟨"HerdCordsModel", "undo", "()I"⟩ prog_7_method_44_code 2 (some .int) ∈ zW := zw_mem 976 (by decide +kernel) (by decide +kernel)
theorem q977 : Cond.methodLink "HerdCordsLaw" 137 ⟨"HerdCordsModel", "cordOf", "(II)I"⟩ ∈ zW := zw_mem 977 (by decide +kernel) (by decide +kernel)
theorem q978 : Cond.instanceMethod ⟨"HerdCordsModel", "cordOf", "(II)I"⟩ ∈ zW := zw_mem 978 (by decide +kernel) (by decide +kernel)
theorem q979 : Cond.selects "HerdCordsModel" ⟨"HerdCordsModel", "cordOf", "(II)I"⟩ ⟨"HerdCordsModel", "cordOf", "(II)I"⟩ ∈ zW := zw_mem 979 (by decide +kernel) (by decide +kernel)
theorem q980 : Cond.code ⟨"HerdCordsModel", "cordOf", "(II)I"⟩ prog_7_method_47_code 3 (some .int) ∈ zW := zw_mem 980 (by decide +kernel) (by decide +kernel)
theorem q981 : Cond.methodLink "HerdCordsModel" 133 ⟨"HerdCordsModel", "number", "(II)I"⟩ ∈ zW := zw_mem 981 (by decide +kernel) (by decide +kernel)
theorem q983 : Cond.instanceMethod ⟨"HerdCordsModel", "number", "(II)I"⟩ ∈ zW := zw_mem 983 (by decide +kernel) (by decide +kernel)
theorem q984 : Cond.code ⟨"HerdCordsModel", "number", "(II)I"⟩ prog_7_method_46_code 3 (some .int) ∈ zW := zw_mem 984 (by decide +kernel) (by decide +kernel)
theorem q985 : Cond.methodLink "HerdCordsModel" 130 ⟨"HerdCordsModel", "loopsOf", "(I)I"⟩ ∈ zW := zw_mem 985 (by decide +kernel) (by decide +kernel)
theorem q987 : Cond.instanceMethod ⟨"HerdCordsModel", "loopsOf", "(I)I"⟩ ∈ zW := zw_mem 987 (by decide +kernel) (by decide +kernel)
theorem q988 : Cond.code ⟨"HerdCordsModel", "loopsOf", "(I)I"⟩ prog_7_method_45_code 4 (some .int) ∈ zW := zw_mem 988 (by decide +kernel) (by decide +kernel)
theorem q989 : Cond.methodLink "HerdCordsLaw" 141 ⟨"HerdCordsModel", "placeOf", "(III)I"⟩ ∈ zW := zw_mem 989 (by decide +kernel) (by decide +kernel)
theorem q990 : Cond.instanceMethod ⟨"HerdCordsModel", "placeOf", "(III)I"⟩ ∈ zW := zw_mem 990 (by decide +kernel) (by decide +kernel)
theorem q991 : Cond.selects "HerdCordsModel" ⟨"HerdCordsModel", "placeOf", "(III)I"⟩ ⟨"HerdCordsModel", "placeOf", "(III)I"⟩ ∈ zW := zw_mem 991 (by decide +kernel) (by decide +kernel)
theorem q992 : Cond.code ⟨"HerdCordsModel", "placeOf", "(III)I"⟩ prog_7_method_49_code 4 (some .int) ∈ zW := zw_mem 992 (by decide +kernel) (by decide +kernel)
theorem q993 : Cond.methodLink "HerdCordsModel" 136 ⟨"HerdCordsModel", "atPlace", "(III)I"⟩ ∈ zW := zw_mem 993 (by decide +kernel) (by decide +kernel)
theorem q995 : Cond.instanceMethod ⟨"HerdCordsModel", "atPlace", "(III)I"⟩ ∈ zW := zw_mem 995 (by decide +kernel) (by decide +kernel)
theorem q996 : Cond.code ⟨"HerdCordsModel", "atPlace", "(III)I"⟩ prog_7_method_48_code 5 (some .int) ∈ zW := zw_mem 996 (by decide +kernel) (by decide +kernel)
theorem q997 : Cond.methodLink "HerdCordsLaw" 144 ⟨"HerdCordsModel", "part", "(II)I"⟩ ∈ zW := zw_mem 997 (by decide +kernel) (by decide +kernel)
theorem q998 : Cond.instanceMethod ⟨"HerdCordsModel", "part", "(II)I"⟩ ∈ zW := zw_mem 998 (by decide +kernel) (by decide +kernel)
theorem q999 : Cond.selects "HerdCordsModel" ⟨"HerdCordsModel", "part", "(II)I"⟩ ⟨"HerdCordsModel", "part", "(II)I"⟩ ∈ zW := zw_mem 999 (by decide +kernel) (by decide +kernel)
theorem q1000 : Cond.code ⟨"HerdCordsModel", "part", "(II)I"⟩ prog_7_method_50_code 3 (some .int) ∈ zW := zw_mem 1000 (by decide +kernel) (by decide +kernel)
theorem q1001 : Cond.methodLink "HerdCordsLaw" 147 ⟨"HerdCordsModel", "count", "(I)I"⟩ ∈ zW := zw_mem 1001 (by decide +kernel) (by decide +kernel)
theorem q1002 : Cond.instanceMethod ⟨"HerdCordsModel", "count", "(I)I"⟩ ∈ zW := zw_mem 1002 (by decide +kernel) (by decide +kernel)
theorem q1003 : Cond.selects "HerdCordsModel" ⟨"HerdCordsModel", "count", "(I)I"⟩ ⟨"HerdCordsModel", "count", "(I)I"⟩ ∈ zW := zw_mem 1003 (by decide +kernel) (by decide +kernel)
theorem q1004 : Cond.code ⟨"HerdCordsModel", "count", "(I)I"⟩ prog_7_method_53_code 2 (some .int) ∈ zW := zw_mem 1004 (by decide +kernel) (by decide +kernel)
theorem q1005 : Cond.methodLink "HerdCordsModel" 143 ⟨"HerdCordsModel", "counted", "(I)I"⟩ ∈ zW := zw_mem 1005 (by decide +kernel) (by decide +kernel)
theorem q1007 : Cond.instanceMethod ⟨"HerdCordsModel", "counted", "(I)I"⟩ ∈ zW := zw_mem 1007 (by decide +kernel) (by decide +kernel)
theorem q1008 : Cond.code ⟨"HerdCordsModel", "counted", "(I)I"⟩ prog_7_method_52_code 2 (some .int) ∈ zW := zw_mem 1008 (by decide +kernel) (by decide +kernel)
theorem q1009 : Cond.methodLink "HerdCordsModel" 140 ⟨"HerdCordsModel", "sumOf", "(I)I"⟩ ∈ zW := zw_mem 1009 (by decide +kernel) (by decide +kernel)
theorem q1011 : Cond.instanceMethod ⟨"HerdCordsModel", "sumOf", "(I)I"⟩ ∈ zW := zw_mem 1011 (by decide +kernel) (by decide +kernel)
theorem q1012 : Cond.code ⟨"HerdCordsModel", "sumOf", "(I)I"⟩ prog_7_method_51_code 4 (some .int) ∈ zW := zw_mem 1012 (by decide +kernel) (by decide +kernel)
theorem q1013 : Cond.methodLink "HerdCordsLaw" 150 ⟨"HerdCordsModel", "byHue", "(I)I"⟩ ∈ zW := zw_mem 1013 (by decide +kernel) (by decide +kernel)
theorem q1014 : Cond.instanceMethod ⟨"HerdCordsModel", "byHue", "(I)I"⟩ ∈ zW := zw_mem 1014 (by decide +kernel) (by decide +kernel)
theorem q1015 : Cond.selects "HerdCordsModel" ⟨"HerdCordsModel", "byHue", "(I)I"⟩ ⟨"HerdCordsModel", "byHue", "(I)I"⟩ ∈ zW := zw_mem 1015 (by decide +kernel) (by decide +kernel)
theorem q1016 : Cond.code ⟨"HerdCordsModel", "byHue", "(I)I"⟩ prog_7_method_55_code 2 (some .int) ∈ zW := zw_mem 1016 (by decide +kernel) (by decide +kernel)
theorem q1017 : Cond.methodLink "HerdCordsModel" 146 ⟨"HerdCordsModel", "ofHue", "(I)I"⟩ ∈ zW := zw_mem 1017 (by decide +kernel) (by decide +kernel)
theorem q1019 : Cond.instanceMethod ⟨"HerdCordsModel", "ofHue", "(I)I"⟩ ∈ zW := zw_mem 1019 (by decide +kernel) (by decide +kernel)
theorem q1020 : Cond.code ⟨"HerdCordsModel", "ofHue", "(I)I"⟩ prog_7_method_54_code 4 (some .int) ∈ zW := zw_mem 1020 (by decide +kernel) (by decide +kernel)
theorem q1021 : Cond.methodLink "HerdCordsLaw" 153 ⟨"HerdCordsModel", "whyNot", "(II)I"⟩ ∈ zW := zw_mem 1021 (by decide +kernel) (by decide +kernel)
theorem q1022 : Cond.instanceMethod ⟨"HerdCordsModel", "whyNot", "(II)I"⟩ ∈ zW := zw_mem 1022 (by decide +kernel) (by decide +kernel)
theorem q1023 : Cond.selects "HerdCordsModel" ⟨"HerdCordsModel", "whyNot", "(II)I"⟩ ⟨"HerdCordsModel", "whyNot", "(II)I"⟩ ∈ zW := zw_mem 1023 (by decide +kernel) (by decide +kernel)
theorem q1024 : Cond.code ⟨"HerdCordsModel", "whyNot", "(II)I"⟩ prog_7_method_56_code 3 (some .int) ∈ zW := zw_mem 1024 (by decide +kernel) (by decide +kernel)
theorem q1025 : Cond.methodLink "HerdCordsLaw" 156 ⟨"HerdCordsModel", "howOften", "(II)I"⟩ ∈ zW := zw_mem 1025 (by decide +kernel) (by decide +kernel)
theorem q1026 : Cond.instanceMethod ⟨"HerdCordsModel", "howOften", "(II)I"⟩ ∈ zW := zw_mem 1026 (by decide +kernel) (by decide +kernel)
theorem q1027 : Cond.selects "HerdCordsModel" ⟨"HerdCordsModel", "howOften", "(II)I"⟩ ⟨"HerdCordsModel", "howOften", "(II)I"⟩ ∈ zW := zw_mem 1027 (by decide +kernel) (by decide +kernel)
theorem q1028 : Cond.code ⟨"HerdCordsModel", "howOften", "(II)I"⟩ prog_7_method_58_code 3 (some .int) ∈ zW := zw_mem 1028 (by decide +kernel) (by decide +kernel)
theorem q1029 : Cond.methodLink "HerdCordsModel" 155 ⟨"HerdCordsModel", "times", "(II)I"⟩ ∈ zW := zw_mem 1029 (by decide +kernel) (by decide +kernel)
theorem q1031 : Cond.instanceMethod ⟨"HerdCordsModel", "times", "(II)I"⟩ ∈ zW := zw_mem 1031 (by decide +kernel) (by decide +kernel)
theorem q1032 : Cond.code ⟨"HerdCordsModel", "times", "(II)I"⟩ prog_7_method_57_code 4 (some .int) ∈ zW := zw_mem 1032 (by decide +kernel) (by decide +kernel)
theorem q1033 : Cond.methodLink "HerdCordsModel" 149 ⟨"HerdCordsModel", "putAside", "()V"⟩ ∈ zW := zw_mem 1033 (by decide +kernel) (by decide +kernel)
theorem q1035 : Cond.instanceMethod ⟨"HerdCordsModel", "putAside", "()V"⟩ ∈ zW := zw_mem 1035 (by decide +kernel) (by decide +kernel)
theorem q1036 : Cond.code ⟨"HerdCordsModel", "putAside", "()V"⟩ prog_7_method_9_code 2 none ∈ zW := zw_mem 1036 (by decide +kernel) (by decide +kernel)
theorem q1037 : Cond.methodLink "HerdCordsModel" 152 ⟨"HerdCordsModel", "putBack", "()V"⟩ ∈ zW := zw_mem 1037 (by decide +kernel) (by decide +kernel)
theorem q1039 : Cond.instanceMethod ⟨"HerdCordsModel", "putBack", "()V"⟩ ∈ zW := zw_mem 1039 (by decide +kernel) (by decide +kernel)
theorem q1040 : Cond.code ⟨"HerdCordsModel", "putBack", "()V"⟩ prog_7_method_10_code 2 none ∈ zW := zw_mem 1040 (by decide +kernel) (by decide +kernel)
theorem q1041 : Cond.methodLink "HerdCordsLaw" 159 ⟨"HerdCordsModel", "cordsFor", "(II)I"⟩ ∈ zW := zw_mem 1041 (by decide +kernel) (by decide +kernel)
theorem q1042 : Cond.instanceMethod ⟨"HerdCordsModel", "cordsFor", "(II)I"⟩ ∈ zW := zw_mem 1042 (by decide +kernel) (by decide +kernel)
theorem q1043 : Cond.selects "HerdCordsModel" ⟨"HerdCordsModel", "cordsFor", "(II)I"⟩ ⟨"HerdCordsModel", "cordsFor", "(II)I"⟩ ∈ zW := zw_mem 1043 (by decide +kernel) (by decide +kernel)
theorem q1044 : Cond.code ⟨"HerdCordsModel", "cordsFor", "(II)I"⟩ prog_7_method_62_code 3 (some .int) ∈ zW := zw_mem 1044 (by decide +kernel) (by decide +kernel)
theorem q1045 : Cond.constant "HerdCordsModel" 164 (9999999) ∈ zW := zw_mem 1045 (by decide +kernel) (by decide +kernel)
theorem q1046 : Cond.methodLink "HerdCordsModel" 165 ⟨"HerdCordsModel", "setFor", "(I)I"⟩ ∈ zW := zw_mem 1046 (by decide +kernel) (by decide +kernel)
theorem q1048 : Cond.instanceMethod ⟨"HerdCordsModel", "setFor", "(I)I"⟩ ∈ zW := zw_mem 1048 (by decide +kernel) (by decide +kernel)
theorem q1049 : Cond.code ⟨"HerdCordsModel", "setFor", "(I)I"⟩ prog_7_method_61_code 4 (some .int) ∈ zW := zw_mem 1049 (by decide +kernel) (by decide +kernel)
theorem q1050 : Cond.methodLink "HerdCordsModel" 158 ⟨"HerdCordsModel", "toldBy", "(I)I"⟩ ∈ zW := zw_mem 1050 (by decide +kernel) (by decide +kernel)
theorem q1052 : Cond.instanceMethod ⟨"HerdCordsModel", "toldBy", "(I)I"⟩ ∈ zW := zw_mem 1052 (by decide +kernel) (by decide +kernel)
theorem q1053 : Cond.code ⟨"HerdCordsModel", "toldBy", "(I)I"⟩ prog_7_method_60_code 4 (some .int) ∈ zW := zw_mem 1053 (by decide +kernel) (by decide +kernel)
theorem q1054 : Cond.methodLink "HerdCordsModel" 161 ⟨"HerdCordsModel", "many", "(I)I"⟩ ∈ zW := zw_mem 1054 (by decide +kernel) (by decide +kernel)
theorem q1055 : Cond.static ⟨"HerdCordsModel", "many", "(I)I"⟩ ∈ zW := zw_mem 1055 (by decide +kernel) (by decide +kernel)
theorem q1056 : Cond.code ⟨"HerdCordsModel", "many", "(I)I"⟩ prog_7_method_59_code 3 (some .int) ∈ zW := zw_mem 1056 (by decide +kernel) (by decide +kernel)
theorem q1057 : Cond.methodLink "HerdCordsLaw" 163 ⟨"HerdCordsModel", "fullest", "()I"⟩ ∈ zW := zw_mem 1057 (by decide +kernel) (by decide +kernel)
theorem q1058 : Cond.instanceMethod ⟨"HerdCordsModel", "fullest", "()I"⟩ ∈ zW := zw_mem 1058 (by decide +kernel) (by decide +kernel)
theorem q1059 : Cond.selects "HerdCordsModel" ⟨"HerdCordsModel", "fullest", "()I"⟩ ⟨"HerdCordsModel", "fullest", "()I"⟩ ∈ zW := zw_mem 1059 (by decide +kernel) (by decide +kernel)
theorem q1060 : Cond.code ⟨"HerdCordsModel", "fullest", "()I"⟩ prog_7_method_64_code 1 (some .int) ∈ zW := zw_mem 1060 (by decide +kernel) (by decide +kernel)
theorem q1061 : Cond.methodLink "HerdCordsModel" 168 ⟨"HerdCordsModel", "fullestOne", "()I"⟩ ∈ zW := zw_mem 1061 (by decide +kernel) (by decide +kernel)
theorem q1063 : Cond.instanceMethod ⟨"HerdCordsModel", "fullestOne", "()I"⟩ ∈ zW := zw_mem 1063 (by decide +kernel) (by decide +kernel)
theorem q1064 : Cond.code ⟨"HerdCordsModel", "fullestOne", "()I"⟩ prog_7_method_63_code 3 (some .int) ∈ zW := zw_mem 1064 (by decide +kernel) (by decide +kernel)
theorem q1065 : Cond.methodLink "HerdCordsLaw" 168 ⟨"HerdCordsModel", "closedShare", "()D"⟩ ∈ zW := zw_mem 1065 (by decide +kernel) (by decide +kernel)
theorem q1066 : Cond.instanceMethod ⟨"HerdCordsModel", "closedShare", "()D"⟩ ∈ zW := zw_mem 1066 (by decide +kernel) (by decide +kernel)
theorem q1067 : Cond.selects "HerdCordsModel" ⟨"HerdCordsModel", "closedShare", "()D"⟩ ⟨"HerdCordsModel", "closedShare", "()D"⟩ ∈ zW := zw_mem 1067 (by decide +kernel) (by decide +kernel)
theorem q1068 : Cond.code ⟨"HerdCordsModel", "closedShare", "()D"⟩ prog_7_method_66_code 1 (some .double) ∈ zW := zw_mem 1068 (by decide +kernel) (by decide +kernel)
theorem q1069 : Cond.methodLink "HerdCordsModel" 171 ⟨"HerdCordsModel", "share", "()D"⟩ ∈ zW := zw_mem 1069 (by decide +kernel) (by decide +kernel)
theorem q1071 : Cond.instanceMethod ⟨"HerdCordsModel", "share", "()D"⟩ ∈ zW := zw_mem 1071 (by decide +kernel) (by decide +kernel)
theorem q1072 : Cond.code ⟨"HerdCordsModel", "share", "()D"⟩ prog_7_method_65_code 4 (some .double) ∈ zW := zw_mem 1072 (by decide +kernel) (by decide +kernel)
theorem q1073 : Cond.methodLink "HerdCordsLaw" 173 ⟨"HerdCordsModel", "digest", "()J"⟩ ∈ zW := zw_mem 1073 (by decide +kernel) (by decide +kernel)
theorem q1074 : Cond.instanceMethod ⟨"HerdCordsModel", "digest", "()J"⟩ ∈ zW := zw_mem 1074 (by decide +kernel) (by decide +kernel)
theorem q1075 : Cond.selects "HerdCordsModel" ⟨"HerdCordsModel", "digest", "()J"⟩ ⟨"HerdCordsModel", "digest", "()J"⟩ ∈ zW := zw_mem 1075 (by decide +kernel) (by decide +kernel)
theorem q1076 : Cond.code ⟨"HerdCordsModel", "digest", "()J"⟩ prog_7_method_70_code 2 (some .long) ∈ zW := zw_mem 1076 (by decide +kernel) (by decide +kernel)
theorem q1077 : Cond.constantLong "HerdCordsModel" 193 (3673) ∈ zW := zw_mem 1077 (by decide +kernel) (by decide +kernel)
theorem q1078 : Cond.methodLink "HerdCordsModel" 189 ⟨"HerdCordsModel", "digestOne", "(J)V"⟩ ∈ zW := zw_mem 1078 (by decide +kernel) (by decide +kernel)
theorem q1080 : Cond.instanceMethod ⟨"HerdCordsModel", "digestOne", "(J)V"⟩ ∈ zW := zw_mem 1080 (by decide +kernel) (by decide +kernel)
theorem q1081 : Cond.code ⟨"HerdCordsModel", "digestOne", "(J)V"⟩ prog_7_method_68_code 3 none ∈ zW := zw_mem 1081 (by decide +kernel) (by decide +kernel)
theorem q1082 : Cond.constantLong "HerdCordsModel" 183 (31) ∈ zW := zw_mem 1082 (by decide +kernel) (by decide +kernel)
theorem q1083 : Cond.methodLink "HerdCordsModel" 195 ⟨"HerdCordsModel", "digestCord", "(I)V"⟩ ∈ zW := zw_mem 1083 (by decide +kernel) (by decide +kernel)
theorem q1085 : Cond.instanceMethod ⟨"HerdCordsModel", "digestCord", "(I)V"⟩ ∈ zW := zw_mem 1085 (by decide +kernel) (by decide +kernel)
theorem q1086 : Cond.code ⟨"HerdCordsModel", "digestCord", "(I)V"⟩ prog_7_method_69_code 3 none ∈ zW := zw_mem 1086 (by decide +kernel) (by decide +kernel)
theorem q1087 : Cond.methodLink "HerdCordsModel" 199 ⟨"HerdCordsModel", "bitsOf", "(D)J"⟩ ∈ zW := zw_mem 1087 (by decide +kernel) (by decide +kernel)
theorem q1088 : Cond.static ⟨"HerdCordsModel", "bitsOf", "(D)J"⟩ ∈ zW := zw_mem 1088 (by decide +kernel) (by decide +kernel)
theorem q1089 : Cond.code ⟨"HerdCordsModel", "bitsOf", "(D)J"⟩ prog_7_method_67_code 6 (some .long) ∈ zW := zw_mem 1089 (by decide +kernel) (by decide +kernel)
theorem q1090 : Cond.constantLong "HerdCordsModel" 175 (1023) ∈ zW := zw_mem 1090 (by decide +kernel) (by decide +kernel)
theorem q1091 : Cond.constantDouble "HerdCordsModel" 177 (4611686018427387904 : UInt64) ∈ zW := zw_mem 1091 (by decide +kernel) (by decide +kernel)
theorem q1092 : Cond.constantLong "HerdCordsModel" 179 (4503599627370496) ∈ zW := zw_mem 1092 (by decide +kernel) (by decide +kernel)
theorem q1093 : Cond.constantDouble "HerdCordsModel" 181 (4841369599423283200 : UInt64) ∈ zW := zw_mem 1093 (by decide +kernel) (by decide +kernel)
theorem q1094 : Cond.arrayClass FieldType.long ∈ zW := zw_mem 1094 (by decide +kernel) (by decide +kernel)
theorem ziX0 : ∀ w ∈ wsX00, w ∈ zW := fun w h => List.mem_filter.mpr ⟨(show ∀ w ∈ wsX00, w ∈ lw_tbl by decide +kernel) w h, List.all_eq_true.mp (show wsX00.all goodWord = true by decide +kernel) w h⟩
theorem ziX1 : ∀ w ∈ wsX10, w ∈ zW := fun w h => List.mem_filter.mpr ⟨(show ∀ w ∈ wsX10, w ∈ lw_tbl by decide +kernel) w h, List.all_eq_true.mp (show wsX10.all goodWord = true by decide +kernel) w h⟩
theorem ziX2 : ∀ w ∈ wsX20, w ∈ zW := fun w h => List.mem_filter.mpr ⟨(show ∀ w ∈ wsX20, w ∈ lw_tbl by decide +kernel) w h, List.all_eq_true.mp (show wsX20.all goodWord = true by decide +kernel) w h⟩
theorem ziX3 : ∀ w ∈ wsX30, w ∈ zW := fun w h => List.mem_filter.mpr ⟨(show ∀ w ∈ wsX30, w ∈ lw_tbl by decide +kernel) w h, List.all_eq_true.mp (show wsX30.all goodWord = true by decide +kernel) w h⟩
theorem ziX4 : ∀ w ∈ wsX40, w ∈ zW := fun w h => List.mem_filter.mpr ⟨(show ∀ w ∈ wsX40, w ∈ lw_tbl by decide +kernel) w h, List.all_eq_true.mp (show wsX40.all goodWord = true by decide +kernel) w h⟩
theorem ziX5 : ∀ w ∈ wsX50, w ∈ zW := fun w h => List.mem_filter.mpr ⟨(show ∀ w ∈ wsX50, w ∈ lw_tbl by decide +kernel) w h, List.all_eq_true.mp (show wsX50.all goodWord = true by decide +kernel) w h⟩
end
section
theorem dX0_init_0 : decode cX0_init 0 = .ok (.aload_n 0, 1) := by decide +kernel
theorem dX0_init_1 : decode cX0_init 1 = .ok (.invokespecial 3, 3) := by decide +kernel
theorem dX0_init_4 : decode cX0_init 4 = .ok (.aload_n 0, 1) := by decide +kernel
theorem dX0_init_5 : decode cX0_init 5 = .ok (.bipush 6, 2) := by decide +kernel
theorem dX0_init_7 : decode cX0_init 7 = .ok (.newarray .int, 2) := by decide +kernel
theorem dX0_init_9 : decode cX0_init 9 = .ok (.putfield 9, 3) := by decide +kernel
theorem dX0_init_12 : decode cX0_init 12 = .ok (.aload_n 0, 1) := by decide +kernel
theorem dX0_init_13 : decode cX0_init 13 = .ok (.bipush 6, 2) := by decide +kernel
theorem dX0_init_15 : decode cX0_init 15 = .ok (.newarray .int, 2) := by decide +kernel
theorem dX0_init_17 : decode cX0_init 17 = .ok (.putfield 15, 3) := by decide +kernel
theorem dX0_init_20 : decode cX0_init 20 = .ok (.aload_n 0, 1) := by decide +kernel
theorem dX0_init_21 : decode cX0_init 21 = .ok (.bipush 16, 2) := by decide +kernel
theorem dX0_init_23 : decode cX0_init 23 = .ok (.newarray .int, 2) := by decide +kernel
theorem dX0_init_25 : decode cX0_init 25 = .ok (.putfield 18, 3) := by decide +kernel
theorem dX0_init_28 : decode cX0_init 28 = .ok (.aload_n 0, 1) := by decide +kernel
theorem dX0_init_29 : decode cX0_init 29 = .ok (.iconst 0, 1) := by decide +kernel
theorem dX0_init_30 : decode cX0_init 30 = .ok (.putfield 21, 3) := by decide +kernel
theorem dX0_init_33 : decode cX0_init 33 = .ok (.aload_n 0, 1) := by decide +kernel
theorem dX0_init_34 : decode cX0_init 34 = .ok (.iconst 0, 1) := by decide +kernel
theorem dX0_init_35 : decode cX0_init 35 = .ok (.putfield 25, 3) := by decide +kernel
theorem dX0_init_38 : decode cX0_init 38 = .ok (.aload_n 0, 1) := by decide +kernel
theorem dX0_init_39 : decode cX0_init 39 = .ok (.iconst 0, 1) := by decide +kernel
theorem dX0_init_40 : decode cX0_init 40 = .ok (.putfield 28, 3) := by decide +kernel
theorem dX0_init_43 : decode cX0_init 43 = .ok (.return_, 1) := by decide +kernel
theorem dX0_copyFrom_0 : decode cX0_copyFrom 0 = .ok (.aload_n 1, 1) := by decide +kernel
theorem dX0_copyFrom_1 : decode cX0_copyFrom 1 = .ok (.getfield 9, 3) := by decide +kernel
theorem dX0_copyFrom_4 : decode cX0_copyFrom 4 = .ok (.iconst 0, 1) := by decide +kernel
theorem dX0_copyFrom_5 : decode cX0_copyFrom 5 = .ok (.aload_n 0, 1) := by decide +kernel
theorem dX0_copyFrom_6 : decode cX0_copyFrom 6 = .ok (.getfield 9, 3) := by decide +kernel
theorem dX0_copyFrom_9 : decode cX0_copyFrom 9 = .ok (.iconst 0, 1) := by decide +kernel
theorem dX0_copyFrom_10 : decode cX0_copyFrom 10 = .ok (.bipush 6, 2) := by decide +kernel
theorem dX0_copyFrom_12 : decode cX0_copyFrom 12 = .ok (.invokestatic 31, 3) := by decide +kernel
theorem dX0_copyFrom_15 : decode cX0_copyFrom 15 = .ok (.aload_n 1, 1) := by decide +kernel
theorem dX0_copyFrom_16 : decode cX0_copyFrom 16 = .ok (.getfield 15, 3) := by decide +kernel
theorem dX0_copyFrom_19 : decode cX0_copyFrom 19 = .ok (.iconst 0, 1) := by decide +kernel
theorem dX0_copyFrom_20 : decode cX0_copyFrom 20 = .ok (.aload_n 0, 1) := by decide +kernel
theorem dX0_copyFrom_21 : decode cX0_copyFrom 21 = .ok (.getfield 15, 3) := by decide +kernel
theorem dX0_copyFrom_24 : decode cX0_copyFrom 24 = .ok (.iconst 0, 1) := by decide +kernel
theorem dX0_copyFrom_25 : decode cX0_copyFrom 25 = .ok (.bipush 6, 2) := by decide +kernel
theorem dX0_copyFrom_27 : decode cX0_copyFrom 27 = .ok (.invokestatic 31, 3) := by decide +kernel
theorem dX0_copyFrom_30 : decode cX0_copyFrom 30 = .ok (.aload_n 1, 1) := by decide +kernel
theorem dX0_copyFrom_31 : decode cX0_copyFrom 31 = .ok (.getfield 18, 3) := by decide +kernel
theorem dX0_copyFrom_34 : decode cX0_copyFrom 34 = .ok (.iconst 0, 1) := by decide +kernel
theorem dX0_copyFrom_35 : decode cX0_copyFrom 35 = .ok (.aload_n 0, 1) := by decide +kernel
theorem dX0_copyFrom_36 : decode cX0_copyFrom 36 = .ok (.getfield 18, 3) := by decide +kernel
theorem dX0_copyFrom_39 : decode cX0_copyFrom 39 = .ok (.iconst 0, 1) := by decide +kernel
theorem dX0_copyFrom_40 : decode cX0_copyFrom 40 = .ok (.bipush 16, 2) := by decide +kernel
theorem dX0_copyFrom_42 : decode cX0_copyFrom 42 = .ok (.invokestatic 31, 3) := by decide +kernel
theorem dX0_copyFrom_45 : decode cX0_copyFrom 45 = .ok (.aload_n 0, 1) := by decide +kernel
theorem dX0_copyFrom_46 : decode cX0_copyFrom 46 = .ok (.aload_n 1, 1) := by decide +kernel
theorem dX0_copyFrom_47 : decode cX0_copyFrom 47 = .ok (.getfield 21, 3) := by decide +kernel
theorem dX0_copyFrom_50 : decode cX0_copyFrom 50 = .ok (.putfield 21, 3) := by decide +kernel
theorem dX0_copyFrom_53 : decode cX0_copyFrom 53 = .ok (.aload_n 0, 1) := by decide +kernel
theorem dX0_copyFrom_54 : decode cX0_copyFrom 54 = .ok (.aload_n 1, 1) := by decide +kernel
theorem dX0_copyFrom_55 : decode cX0_copyFrom 55 = .ok (.getfield 25, 3) := by decide +kernel
theorem dX0_copyFrom_58 : decode cX0_copyFrom 58 = .ok (.putfield 25, 3) := by decide +kernel
theorem dX0_copyFrom_61 : decode cX0_copyFrom 61 = .ok (.aload_n 0, 1) := by decide +kernel
theorem dX0_copyFrom_62 : decode cX0_copyFrom 62 = .ok (.aload_n 1, 1) := by decide +kernel
theorem dX0_copyFrom_63 : decode cX0_copyFrom 63 = .ok (.getfield 28, 3) := by decide +kernel
theorem dX0_copyFrom_66 : decode cX0_copyFrom 66 = .ok (.putfield 28, 3) := by decide +kernel
theorem dX0_copyFrom_69 : decode cX0_copyFrom 69 = .ok (.return_, 1) := by decide +kernel
theorem dX0_becomeNew_0 : decode cX0_becomeNew 0 = .ok (.iconst 0, 1) := by decide +kernel
theorem dX0_becomeNew_1 : decode cX0_becomeNew 1 = .ok (.istore_n 1, 1) := by decide +kernel
theorem dX0_becomeNew_2 : decode cX0_becomeNew 2 = .ok (.iload_n 1, 1) := by decide +kernel
theorem dX0_becomeNew_3 : decode cX0_becomeNew 3 = .ok (.bipush 6, 2) := by decide +kernel
theorem dX0_becomeNew_5 : decode cX0_becomeNew 5 = .ok (.if_icmp .ge 23, 3) := by decide +kernel
theorem dX0_becomeNew_8 : decode cX0_becomeNew 8 = .ok (.aload_n 0, 1) := by decide +kernel
theorem dX0_becomeNew_9 : decode cX0_becomeNew 9 = .ok (.getfield 9, 3) := by decide +kernel
theorem dX0_becomeNew_12 : decode cX0_becomeNew 12 = .ok (.iload_n 1, 1) := by decide +kernel
theorem dX0_becomeNew_13 : decode cX0_becomeNew 13 = .ok (.iconst 0, 1) := by decide +kernel
theorem dX0_becomeNew_14 : decode cX0_becomeNew 14 = .ok (.iastore, 1) := by decide +kernel
theorem dX0_becomeNew_15 : decode cX0_becomeNew 15 = .ok (.aload_n 0, 1) := by decide +kernel
theorem dX0_becomeNew_16 : decode cX0_becomeNew 16 = .ok (.getfield 15, 3) := by decide +kernel
theorem dX0_becomeNew_19 : decode cX0_becomeNew 19 = .ok (.iload_n 1, 1) := by decide +kernel
theorem dX0_becomeNew_20 : decode cX0_becomeNew 20 = .ok (.iconst 0, 1) := by decide +kernel
theorem dX0_becomeNew_21 : decode cX0_becomeNew 21 = .ok (.iastore, 1) := by decide +kernel
theorem dX0_becomeNew_22 : decode cX0_becomeNew 22 = .ok (.iinc 1 1, 3) := by decide +kernel
theorem dX0_becomeNew_25 : decode cX0_becomeNew 25 = .ok (.goto (-23), 3) := by decide +kernel
theorem dX0_becomeNew_28 : decode cX0_becomeNew 28 = .ok (.aload_n 0, 1) := by decide +kernel
theorem dX0_becomeNew_29 : decode cX0_becomeNew 29 = .ok (.iconst 0, 1) := by decide +kernel
theorem dX0_becomeNew_30 : decode cX0_becomeNew 30 = .ok (.putfield 21, 3) := by decide +kernel
theorem dX0_becomeNew_33 : decode cX0_becomeNew 33 = .ok (.aload_n 0, 1) := by decide +kernel
theorem dX0_becomeNew_34 : decode cX0_becomeNew 34 = .ok (.iconst 0, 1) := by decide +kernel
theorem dX0_becomeNew_35 : decode cX0_becomeNew 35 = .ok (.putfield 28, 3) := by decide +kernel
theorem dX0_becomeNew_38 : decode cX0_becomeNew 38 = .ok (.return_, 1) := by decide +kernel
theorem dX0_open_0 : decode cX0_open 0 = .ok (.aload_n 0, 1) := by decide +kernel
theorem dX0_open_1 : decode cX0_open 1 = .ok (.getfield 9, 3) := by decide +kernel
theorem dX0_open_4 : decode cX0_open 4 = .ok (.iload_n 1, 1) := by decide +kernel
theorem dX0_open_5 : decode cX0_open 5 = .ok (.iaload, 1) := by decide +kernel
theorem dX0_open_6 : decode cX0_open 6 = .ok (.bipush 10, 2) := by decide +kernel
theorem dX0_open_8 : decode cX0_open 8 = .ok (.aload_n 0, 1) := by decide +kernel
theorem dX0_open_9 : decode cX0_open 9 = .ok (.getfield 15, 3) := by decide +kernel
theorem dX0_open_12 : decode cX0_open 12 = .ok (.iload_n 1, 1) := by decide +kernel
theorem dX0_open_13 : decode cX0_open 13 = .ok (.iaload, 1) := by decide +kernel
theorem dX0_open_14 : decode cX0_open 14 = .ok (.imul, 1) := by decide +kernel
theorem dX0_open_15 : decode cX0_open 15 = .ok (.isub, 1) := by decide +kernel
theorem dX0_open_16 : decode cX0_open 16 = .ok (.ireturn, 1) := by decide +kernel
theorem dX0_tiesAt_0 : decode cX0_tiesAt 0 = .ok (.aload_n 0, 1) := by decide +kernel
theorem dX0_tiesAt_1 : decode cX0_tiesAt 1 = .ok (.getfield 9, 3) := by decide +kernel
theorem dX0_tiesAt_4 : decode cX0_tiesAt 4 = .ok (.iload_n 1, 1) := by decide +kernel
theorem dX0_tiesAt_5 : decode cX0_tiesAt 5 = .ok (.iaload, 1) := by decide +kernel
theorem dX0_tiesAt_6 : decode cX0_tiesAt 6 = .ok (.aload_n 0, 1) := by decide +kernel
theorem dX0_tiesAt_7 : decode cX0_tiesAt 7 = .ok (.getfield 15, 3) := by decide +kernel
theorem dX0_tiesAt_10 : decode cX0_tiesAt 10 = .ok (.iload_n 1, 1) := by decide +kernel
theorem dX0_tiesAt_11 : decode cX0_tiesAt 11 = .ok (.iaload, 1) := by decide +kernel
theorem dX0_tiesAt_12 : decode cX0_tiesAt 12 = .ok (.iadd, 1) := by decide +kernel
theorem dX0_tiesAt_13 : decode cX0_tiesAt 13 = .ok (.ireturn, 1) := by decide +kernel
theorem dX0_told_0 : decode cX0_told 0 = .ok (.iconst 0, 1) := by decide +kernel
theorem dX0_told_1 : decode cX0_told 1 = .ok (.istore_n 1, 1) := by decide +kernel
theorem dX0_told_2 : decode cX0_told 2 = .ok (.iconst 5, 1) := by decide +kernel
theorem dX0_told_3 : decode cX0_told 3 = .ok (.istore_n 2, 1) := by decide +kernel
theorem dX0_told_4 : decode cX0_told 4 = .ok (.iload_n 2, 1) := by decide +kernel
theorem dX0_told_5 : decode cX0_told 5 = .ok (.ifCond .lt 20, 3) := by decide +kernel
theorem dX0_told_8 : decode cX0_told 8 = .ok (.bipush 10, 2) := by decide +kernel
theorem dX0_told_10 : decode cX0_told 10 = .ok (.iload_n 1, 1) := by decide +kernel
theorem dX0_told_11 : decode cX0_told 11 = .ok (.imul, 1) := by decide +kernel
theorem dX0_told_12 : decode cX0_told 12 = .ok (.aload_n 0, 1) := by decide +kernel
theorem dX0_told_13 : decode cX0_told 13 = .ok (.iload_n 2, 1) := by decide +kernel
theorem dX0_told_14 : decode cX0_told 14 = .ok (.invokevirtual 37, 3) := by decide +kernel
theorem dX0_told_17 : decode cX0_told 17 = .ok (.iadd, 1) := by decide +kernel
theorem dX0_told_18 : decode cX0_told 18 = .ok (.istore_n 1, 1) := by decide +kernel
theorem dX0_told_19 : decode cX0_told 19 = .ok (.iinc 2 (-1), 3) := by decide +kernel
theorem dX0_told_22 : decode cX0_told 22 = .ok (.goto (-18), 3) := by decide +kernel
theorem dX0_told_25 : decode cX0_told 25 = .ok (.iload_n 1, 1) := by decide +kernel
theorem dX0_told_26 : decode cX0_told 26 = .ok (.ireturn, 1) := by decide +kernel
theorem dX0_partsTogether_0 : decode cX0_partsTogether 0 = .ok (.aload_n 0, 1) := by decide +kernel
theorem dX0_partsTogether_1 : decode cX0_partsTogether 1 = .ok (.getfield 18, 3) := by decide +kernel
theorem dX0_partsTogether_4 : decode cX0_partsTogether 4 = .ok (.aload_n 0, 1) := by decide +kernel
theorem dX0_partsTogether_5 : decode cX0_partsTogether 5 = .ok (.getfield 21, 3) := by decide +kernel
theorem dX0_partsTogether_8 : decode cX0_partsTogether 8 = .ok (.invokestatic 41, 3) := by decide +kernel
theorem dX0_partsTogether_11 : decode cX0_partsTogether 11 = .ok (.ireturn, 1) := by decide +kernel
theorem dX0_lack_0 : decode cX0_lack 0 = .ok (.aload_n 0, 1) := by decide +kernel
theorem dX0_lack_1 : decode cX0_lack 1 = .ok (.invokevirtual 45, 3) := by decide +kernel
theorem dX0_lack_4 : decode cX0_lack 4 = .ok (.aload_n 0, 1) := by decide +kernel
theorem dX0_lack_5 : decode cX0_lack 5 = .ok (.invokevirtual 49, 3) := by decide +kernel
theorem dX0_lack_8 : decode cX0_lack 8 = .ok (.isub, 1) := by decide +kernel
theorem dX0_lack_9 : decode cX0_lack 9 = .ok (.ireturn, 1) := by decide +kernel
theorem dX0_allKnots_0 : decode cX0_allKnots 0 = .ok (.aload_n 0, 1) := by decide +kernel
theorem dX0_allKnots_1 : decode cX0_allKnots 1 = .ok (.getfield 9, 3) := by decide +kernel
theorem dX0_allKnots_4 : decode cX0_allKnots 4 = .ok (.bipush 6, 2) := by decide +kernel
theorem dX0_allKnots_6 : decode cX0_allKnots 6 = .ok (.invokestatic 41, 3) := by decide +kernel
theorem dX0_allKnots_9 : decode cX0_allKnots 9 = .ok (.ireturn, 1) := by decide +kernel
theorem dX0_allLoops_0 : decode cX0_allLoops 0 = .ok (.aload_n 0, 1) := by decide +kernel
theorem dX0_allLoops_1 : decode cX0_allLoops 1 = .ok (.getfield 15, 3) := by decide +kernel
theorem dX0_allLoops_4 : decode cX0_allLoops 4 = .ok (.bipush 6, 2) := by decide +kernel
theorem dX0_allLoops_6 : decode cX0_allLoops 6 = .ok (.invokestatic 41, 3) := by decide +kernel
theorem dX0_allLoops_9 : decode cX0_allLoops 9 = .ok (.ireturn, 1) := by decide +kernel
theorem dX0_ties_0 : decode cX0_ties 0 = .ok (.aload_n 0, 1) := by decide +kernel
theorem dX0_ties_1 : decode cX0_ties 1 = .ok (.invokevirtual 52, 3) := by decide +kernel
theorem dX0_ties_4 : decode cX0_ties 4 = .ok (.aload_n 0, 1) := by decide +kernel
theorem dX0_ties_5 : decode cX0_ties 5 = .ok (.invokevirtual 55, 3) := by decide +kernel
theorem dX0_ties_8 : decode cX0_ties 8 = .ok (.iadd, 1) := by decide +kernel
theorem dX0_ties_9 : decode cX0_ties 9 = .ok (.ireturn, 1) := by decide +kernel
theorem dX0_refusal_0 : decode cX0_refusal 0 = .ok (.aload_n 0, 1) := by decide +kernel
theorem dX0_refusal_1 : decode cX0_refusal 1 = .ok (.invokevirtual 49, 3) := by decide +kernel
theorem dX0_refusal_4 : decode cX0_refusal 4 = .ok (.iload_n 1, 1) := by decide +kernel
theorem dX0_refusal_5 : decode cX0_refusal 5 = .ok (.iadd, 1) := by decide +kernel
theorem dX0_refusal_6 : decode cX0_refusal 6 = .ok (.ldc 58, 2) := by decide +kernel
theorem dX0_refusal_8 : decode cX0_refusal 8 = .ok (.if_icmp .le 5, 3) := by decide +kernel
theorem dX0_refusal_11 : decode cX0_refusal 11 = .ok (.iconst 1, 1) := by decide +kernel
theorem dX0_refusal_12 : decode cX0_refusal 12 = .ok (.ireturn, 1) := by decide +kernel
theorem dX0_refusal_13 : decode cX0_refusal 13 = .ok (.iload_n 1, 1) := by decide +kernel
theorem dX0_refusal_14 : decode cX0_refusal 14 = .ok (.istore_n 3, 1) := by decide +kernel
theorem dX0_refusal_15 : decode cX0_refusal 15 = .ok (.iconst 0, 1) := by decide +kernel
theorem dX0_refusal_16 : decode cX0_refusal 16 = .ok (.istore 4, 2) := by decide +kernel
theorem dX0_refusal_18 : decode cX0_refusal 18 = .ok (.iconst 0, 1) := by decide +kernel
theorem dX0_refusal_19 : decode cX0_refusal 19 = .ok (.istore 5, 2) := by decide +kernel
theorem dX0_refusal_21 : decode cX0_refusal 21 = .ok (.iload 5, 2) := by decide +kernel
theorem dX0_refusal_23 : decode cX0_refusal 23 = .ok (.bipush 6, 2) := by decide +kernel
theorem dX0_refusal_25 : decode cX0_refusal 25 = .ok (.if_icmp .ge 64, 3) := by decide +kernel
theorem dX0_refusal_28 : decode cX0_refusal 28 = .ok (.iload_n 3, 1) := by decide +kernel
theorem dX0_refusal_29 : decode cX0_refusal 29 = .ok (.bipush 10, 2) := by decide +kernel
theorem dX0_refusal_31 : decode cX0_refusal 31 = .ok (.irem, 1) := by decide +kernel
theorem dX0_refusal_32 : decode cX0_refusal 32 = .ok (.iload 4, 2) := by decide +kernel
theorem dX0_refusal_34 : decode cX0_refusal 34 = .ok (.iadd, 1) := by decide +kernel
theorem dX0_refusal_35 : decode cX0_refusal 35 = .ok (.istore 6, 2) := by decide +kernel
theorem dX0_refusal_37 : decode cX0_refusal 37 = .ok (.aload_n 0, 1) := by decide +kernel
theorem dX0_refusal_38 : decode cX0_refusal 38 = .ok (.iload 5, 2) := by decide +kernel
theorem dX0_refusal_40 : decode cX0_refusal 40 = .ok (.iload 6, 2) := by decide +kernel
theorem dX0_refusal_42 : decode cX0_refusal 42 = .ok (.invokevirtual 59, 3) := by decide +kernel
theorem dX0_refusal_45 : decode cX0_refusal 45 = .ok (.istore 7, 2) := by decide +kernel
theorem dX0_refusal_47 : decode cX0_refusal 47 = .ok (.iload 6, 2) := by decide +kernel
theorem dX0_refusal_49 : decode cX0_refusal 49 = .ok (.iload 7, 2) := by decide +kernel
theorem dX0_refusal_51 : decode cX0_refusal 51 = .ok (.iadd, 1) := by decide +kernel
theorem dX0_refusal_52 : decode cX0_refusal 52 = .ok (.istore 8, 2) := by decide +kernel
theorem dX0_refusal_54 : decode cX0_refusal 54 = .ok (.iload 8, 2) := by decide +kernel
theorem dX0_refusal_56 : decode cX0_refusal 56 = .ok (.ifCond .le 18, 3) := by decide +kernel
theorem dX0_refusal_59 : decode cX0_refusal 59 = .ok (.aload_n 0, 1) := by decide +kernel
theorem dX0_refusal_60 : decode cX0_refusal 60 = .ok (.iload 5, 2) := by decide +kernel
theorem dX0_refusal_62 : decode cX0_refusal 62 = .ok (.invokevirtual 63, 3) := by decide +kernel
theorem dX0_refusal_65 : decode cX0_refusal 65 = .ok (.iload 8, 2) := by decide +kernel
theorem dX0_refusal_67 : decode cX0_refusal 67 = .ok (.iadd, 1) := by decide +kernel
theorem dX0_refusal_68 : decode cX0_refusal 68 = .ok (.iload_n 2, 1) := by decide +kernel
theorem dX0_refusal_69 : decode cX0_refusal 69 = .ok (.if_icmp .le 5, 3) := by decide +kernel
theorem dX0_refusal_72 : decode cX0_refusal 72 = .ok (.iconst 2, 1) := by decide +kernel
theorem dX0_refusal_73 : decode cX0_refusal 73 = .ok (.ireturn, 1) := by decide +kernel
theorem dX0_refusal_74 : decode cX0_refusal 74 = .ok (.iload_n 3, 1) := by decide +kernel
theorem dX0_refusal_75 : decode cX0_refusal 75 = .ok (.bipush 10, 2) := by decide +kernel
theorem dX0_refusal_77 : decode cX0_refusal 77 = .ok (.idiv, 1) := by decide +kernel
theorem dX0_refusal_78 : decode cX0_refusal 78 = .ok (.istore_n 3, 1) := by decide +kernel
theorem dX0_refusal_79 : decode cX0_refusal 79 = .ok (.iload 7, 2) := by decide +kernel
theorem dX0_refusal_81 : decode cX0_refusal 81 = .ok (.istore 4, 2) := by decide +kernel
theorem dX0_refusal_83 : decode cX0_refusal 83 = .ok (.iinc 5 1, 3) := by decide +kernel
theorem dX0_refusal_86 : decode cX0_refusal 86 = .ok (.goto (-65), 3) := by decide +kernel
theorem dX0_refusal_89 : decode cX0_refusal 89 = .ok (.iconst 0, 1) := by decide +kernel
theorem dX0_refusal_90 : decode cX0_refusal 90 = .ok (.ireturn, 1) := by decide +kernel
theorem dX0_refusalOfPart_0 : decode cX0_refusalOfPart 0 = .ok (.aload_n 0, 1) := by decide +kernel
theorem dX0_refusalOfPart_1 : decode cX0_refusalOfPart 1 = .ok (.getfield 21, 3) := by decide +kernel
theorem dX0_refusalOfPart_4 : decode cX0_refusalOfPart 4 = .ok (.bipush 16, 2) := by decide +kernel
theorem dX0_refusalOfPart_6 : decode cX0_refusalOfPart 6 = .ok (.if_icmp .lt 7, 3) := by decide +kernel
theorem dX0_refusalOfPart_9 : decode cX0_refusalOfPart 9 = .ok (.iconst 3, 1) := by decide +kernel
theorem dX0_refusalOfPart_10 : decode cX0_refusalOfPart 10 = .ok (.goto 9, 3) := by decide +kernel
theorem dX0_refusalOfPart_13 : decode cX0_refusalOfPart 13 = .ok (.aload_n 0, 1) := by decide +kernel
theorem dX0_refusalOfPart_14 : decode cX0_refusalOfPart 14 = .ok (.iload_n 1, 1) := by decide +kernel
theorem dX0_refusalOfPart_15 : decode cX0_refusalOfPart 15 = .ok (.iload_n 2, 1) := by decide +kernel
theorem dX0_refusalOfPart_16 : decode cX0_refusalOfPart 16 = .ok (.invokevirtual 66, 3) := by decide +kernel
theorem dX0_refusalOfPart_19 : decode cX0_refusalOfPart 19 = .ok (.ireturn, 1) := by decide +kernel
theorem dX0_tieKnots_0 : decode cX0_tieKnots 0 = .ok (.iload_n 1, 1) := by decide +kernel
theorem dX0_tieKnots_1 : decode cX0_tieKnots 1 = .ok (.istore_n 2, 1) := by decide +kernel
theorem dX0_tieKnots_2 : decode cX0_tieKnots 2 = .ok (.iconst 0, 1) := by decide +kernel
theorem dX0_tieKnots_3 : decode cX0_tieKnots 3 = .ok (.istore_n 3, 1) := by decide +kernel
theorem dX0_tieKnots_4 : decode cX0_tieKnots 4 = .ok (.iconst 0, 1) := by decide +kernel
theorem dX0_tieKnots_5 : decode cX0_tieKnots 5 = .ok (.istore 4, 2) := by decide +kernel
theorem dX0_tieKnots_7 : decode cX0_tieKnots 7 = .ok (.iload 4, 2) := by decide +kernel
theorem dX0_tieKnots_9 : decode cX0_tieKnots 9 = .ok (.bipush 6, 2) := by decide +kernel
theorem dX0_tieKnots_11 : decode cX0_tieKnots 11 = .ok (.if_icmp .ge 59, 3) := by decide +kernel
theorem dX0_tieKnots_14 : decode cX0_tieKnots 14 = .ok (.iload_n 2, 1) := by decide +kernel
theorem dX0_tieKnots_15 : decode cX0_tieKnots 15 = .ok (.bipush 10, 2) := by decide +kernel
theorem dX0_tieKnots_17 : decode cX0_tieKnots 17 = .ok (.irem, 1) := by decide +kernel
theorem dX0_tieKnots_18 : decode cX0_tieKnots 18 = .ok (.iload_n 3, 1) := by decide +kernel
theorem dX0_tieKnots_19 : decode cX0_tieKnots 19 = .ok (.iadd, 1) := by decide +kernel
theorem dX0_tieKnots_20 : decode cX0_tieKnots 20 = .ok (.istore 5, 2) := by decide +kernel
theorem dX0_tieKnots_22 : decode cX0_tieKnots 22 = .ok (.aload_n 0, 1) := by decide +kernel
theorem dX0_tieKnots_23 : decode cX0_tieKnots 23 = .ok (.iload 4, 2) := by decide +kernel
theorem dX0_tieKnots_25 : decode cX0_tieKnots 25 = .ok (.iload 5, 2) := by decide +kernel
theorem dX0_tieKnots_27 : decode cX0_tieKnots 27 = .ok (.invokevirtual 59, 3) := by decide +kernel
theorem dX0_tieKnots_30 : decode cX0_tieKnots 30 = .ok (.istore 6, 2) := by decide +kernel
theorem dX0_tieKnots_32 : decode cX0_tieKnots 32 = .ok (.aload_n 0, 1) := by decide +kernel
theorem dX0_tieKnots_33 : decode cX0_tieKnots 33 = .ok (.getfield 9, 3) := by decide +kernel
theorem dX0_tieKnots_36 : decode cX0_tieKnots 36 = .ok (.iload 4, 2) := by decide +kernel
theorem dX0_tieKnots_38 : decode cX0_tieKnots 38 = .ok (.dup2, 1) := by decide +kernel
theorem dX0_tieKnots_39 : decode cX0_tieKnots 39 = .ok (.iaload, 1) := by decide +kernel
theorem dX0_tieKnots_40 : decode cX0_tieKnots 40 = .ok (.iload 5, 2) := by decide +kernel
theorem dX0_tieKnots_42 : decode cX0_tieKnots 42 = .ok (.iadd, 1) := by decide +kernel
theorem dX0_tieKnots_43 : decode cX0_tieKnots 43 = .ok (.iastore, 1) := by decide +kernel
theorem dX0_tieKnots_44 : decode cX0_tieKnots 44 = .ok (.aload_n 0, 1) := by decide +kernel
theorem dX0_tieKnots_45 : decode cX0_tieKnots 45 = .ok (.getfield 15, 3) := by decide +kernel
theorem dX0_tieKnots_48 : decode cX0_tieKnots 48 = .ok (.iload 4, 2) := by decide +kernel
theorem dX0_tieKnots_50 : decode cX0_tieKnots 50 = .ok (.dup2, 1) := by decide +kernel
theorem dX0_tieKnots_51 : decode cX0_tieKnots 51 = .ok (.iaload, 1) := by decide +kernel
theorem dX0_tieKnots_52 : decode cX0_tieKnots 52 = .ok (.iload 6, 2) := by decide +kernel
theorem dX0_tieKnots_54 : decode cX0_tieKnots 54 = .ok (.iadd, 1) := by decide +kernel
theorem dX0_tieKnots_55 : decode cX0_tieKnots 55 = .ok (.iastore, 1) := by decide +kernel
theorem dX0_tieKnots_56 : decode cX0_tieKnots 56 = .ok (.iload_n 2, 1) := by decide +kernel
theorem dX0_tieKnots_57 : decode cX0_tieKnots 57 = .ok (.bipush 10, 2) := by decide +kernel
theorem dX0_tieKnots_59 : decode cX0_tieKnots 59 = .ok (.idiv, 1) := by decide +kernel
theorem dX0_tieKnots_60 : decode cX0_tieKnots 60 = .ok (.istore_n 2, 1) := by decide +kernel
theorem dX0_tieKnots_61 : decode cX0_tieKnots 61 = .ok (.iload 6, 2) := by decide +kernel
theorem dX0_tieKnots_63 : decode cX0_tieKnots 63 = .ok (.istore_n 3, 1) := by decide +kernel
theorem dX0_tieKnots_64 : decode cX0_tieKnots 64 = .ok (.iinc 4 1, 3) := by decide +kernel
theorem dX0_tieKnots_67 : decode cX0_tieKnots 67 = .ok (.goto (-60), 3) := by decide +kernel
theorem dX0_tieKnots_70 : decode cX0_tieKnots 70 = .ok (.return_, 1) := by decide +kernel
theorem dX0_tieAsPart_0 : decode cX0_tieAsPart 0 = .ok (.aload_n 0, 1) := by decide +kernel
theorem dX0_tieAsPart_1 : decode cX0_tieAsPart 1 = .ok (.getfield 21, 3) := by decide +kernel
theorem dX0_tieAsPart_4 : decode cX0_tieAsPart 4 = .ok (.bipush 16, 2) := by decide +kernel
theorem dX0_tieAsPart_6 : decode cX0_tieAsPart 6 = .ok (.if_icmp .ge 28, 3) := by decide +kernel
theorem dX0_tieAsPart_9 : decode cX0_tieAsPart 9 = .ok (.aload_n 0, 1) := by decide +kernel
theorem dX0_tieAsPart_10 : decode cX0_tieAsPart 10 = .ok (.getfield 18, 3) := by decide +kernel
theorem dX0_tieAsPart_13 : decode cX0_tieAsPart 13 = .ok (.aload_n 0, 1) := by decide +kernel
theorem dX0_tieAsPart_14 : decode cX0_tieAsPart 14 = .ok (.getfield 21, 3) := by decide +kernel
theorem dX0_tieAsPart_17 : decode cX0_tieAsPart 17 = .ok (.iload_n 1, 1) := by decide +kernel
theorem dX0_tieAsPart_18 : decode cX0_tieAsPart 18 = .ok (.iastore, 1) := by decide +kernel
theorem dX0_tieAsPart_19 : decode cX0_tieAsPart 19 = .ok (.aload_n 0, 1) := by decide +kernel
theorem dX0_tieAsPart_20 : decode cX0_tieAsPart 20 = .ok (.dup, 1) := by decide +kernel
theorem dX0_tieAsPart_21 : decode cX0_tieAsPart 21 = .ok (.getfield 21, 3) := by decide +kernel
theorem dX0_tieAsPart_24 : decode cX0_tieAsPart 24 = .ok (.iconst 1, 1) := by decide +kernel
theorem dX0_tieAsPart_25 : decode cX0_tieAsPart 25 = .ok (.iadd, 1) := by decide +kernel
theorem dX0_tieAsPart_26 : decode cX0_tieAsPart 26 = .ok (.putfield 21, 3) := by decide +kernel
theorem dX0_tieAsPart_29 : decode cX0_tieAsPart 29 = .ok (.aload_n 0, 1) := by decide +kernel
theorem dX0_tieAsPart_30 : decode cX0_tieAsPart 30 = .ok (.iload_n 1, 1) := by decide +kernel
theorem dX0_tieAsPart_31 : decode cX0_tieAsPart 31 = .ok (.invokevirtual 69, 3) := by decide +kernel
theorem dX0_tieAsPart_34 : decode cX0_tieAsPart 34 = .ok (.return_, 1) := by decide +kernel
theorem dX0_loopsFor_0 : decode cX0_loopsFor 0 = .ok (.aload_n 0, 1) := by decide +kernel
theorem dX0_loopsFor_1 : decode cX0_loopsFor 1 = .ok (.iload_n 1, 1) := by decide +kernel
theorem dX0_loopsFor_2 : decode cX0_loopsFor 2 = .ok (.invokevirtual 37, 3) := by decide +kernel
theorem dX0_loopsFor_5 : decode cX0_loopsFor 5 = .ok (.iload_n 2, 1) := by decide +kernel
theorem dX0_loopsFor_6 : decode cX0_loopsFor 6 = .ok (.iadd, 1) := by decide +kernel
theorem dX0_loopsFor_7 : decode cX0_loopsFor 7 = .ok (.bipush 10, 2) := by decide +kernel
theorem dX0_loopsFor_9 : decode cX0_loopsFor 9 = .ok (.idiv, 1) := by decide +kernel
theorem dX0_loopsFor_10 : decode cX0_loopsFor 10 = .ok (.ireturn, 1) := by decide +kernel
theorem dX0_sumOf_0 : decode cX0_sumOf 0 = .ok (.iconst 0, 1) := by decide +kernel
theorem dX0_sumOf_1 : decode cX0_sumOf 1 = .ok (.istore_n 2, 1) := by decide +kernel
theorem dX0_sumOf_2 : decode cX0_sumOf 2 = .ok (.iconst 0, 1) := by decide +kernel
theorem dX0_sumOf_3 : decode cX0_sumOf 3 = .ok (.istore_n 3, 1) := by decide +kernel
theorem dX0_sumOf_4 : decode cX0_sumOf 4 = .ok (.iload_n 3, 1) := by decide +kernel
theorem dX0_sumOf_5 : decode cX0_sumOf 5 = .ok (.iload_n 1, 1) := by decide +kernel
theorem dX0_sumOf_6 : decode cX0_sumOf 6 = .ok (.if_icmp .ge 21, 3) := by decide +kernel
theorem dX0_sumOf_9 : decode cX0_sumOf 9 = .ok (.iload_n 3, 1) := by decide +kernel
theorem dX0_sumOf_10 : decode cX0_sumOf 10 = .ok (.aload_n 0, 1) := by decide +kernel
theorem dX0_sumOf_11 : decode cX0_sumOf 11 = .ok (.arraylength, 1) := by decide +kernel
theorem dX0_sumOf_12 : decode cX0_sumOf 12 = .ok (.if_icmp .ge 15, 3) := by decide +kernel
theorem dX0_sumOf_15 : decode cX0_sumOf 15 = .ok (.iload_n 2, 1) := by decide +kernel
theorem dX0_sumOf_16 : decode cX0_sumOf 16 = .ok (.aload_n 0, 1) := by decide +kernel
theorem dX0_sumOf_17 : decode cX0_sumOf 17 = .ok (.iload_n 3, 1) := by decide +kernel
theorem dX0_sumOf_18 : decode cX0_sumOf 18 = .ok (.iaload, 1) := by decide +kernel
theorem dX0_sumOf_19 : decode cX0_sumOf 19 = .ok (.iadd, 1) := by decide +kernel
theorem dX0_sumOf_20 : decode cX0_sumOf 20 = .ok (.istore_n 2, 1) := by decide +kernel
theorem dX0_sumOf_21 : decode cX0_sumOf 21 = .ok (.iinc 3 1, 3) := by decide +kernel
theorem dX0_sumOf_24 : decode cX0_sumOf 24 = .ok (.goto (-20), 3) := by decide +kernel
theorem dX0_sumOf_27 : decode cX0_sumOf 27 = .ok (.iload_n 2, 1) := by decide +kernel
theorem dX0_sumOf_28 : decode cX0_sumOf 28 = .ok (.ireturn, 1) := by decide +kernel
theorem dX1_init_0 : decode cX1_init 0 = .ok (.aload_n 0, 1) := by decide +kernel
theorem dX1_init_1 : decode cX1_init 1 = .ok (.invokespecial 3, 3) := by decide +kernel
theorem dX1_init_4 : decode cX1_init 4 = .ok (.aload_n 0, 1) := by decide +kernel
theorem dX1_init_5 : decode cX1_init 5 = .ok (.bipush 7, 2) := by decide +kernel
theorem dX1_init_7 : decode cX1_init 7 = .ok (.anewarray 9, 3) := by decide +kernel
theorem dX1_init_10 : decode cX1_init 10 = .ok (.putfield 11, 3) := by decide +kernel
theorem dX1_init_13 : decode cX1_init 13 = .ok (.aload_n 0, 1) := by decide +kernel
theorem dX1_init_14 : decode cX1_init 14 = .ok (.bipush 40, 2) := by decide +kernel
theorem dX1_init_16 : decode cX1_init 16 = .ok (.putfield 17, 3) := by decide +kernel
theorem dX1_init_19 : decode cX1_init 19 = .ok (.aload_n 0, 1) := by decide +kernel
theorem dX1_init_20 : decode cX1_init 20 = .ok (.iconst 0, 1) := by decide +kernel
theorem dX1_init_21 : decode cX1_init 21 = .ok (.putfield 21, 3) := by decide +kernel
theorem dX1_init_24 : decode cX1_init 24 = .ok (.aload_n 0, 1) := by decide +kernel
theorem dX1_init_25 : decode cX1_init 25 = .ok (.iconst 0, 1) := by decide +kernel
theorem dX1_init_26 : decode cX1_init 26 = .ok (.putfield 24, 3) := by decide +kernel
theorem dX1_init_29 : decode cX1_init 29 = .ok (.aload_n 0, 1) := by decide +kernel
theorem dX1_init_30 : decode cX1_init 30 = .ok (.iconst 0, 1) := by decide +kernel
theorem dX1_init_31 : decode cX1_init 31 = .ok (.putfield 27, 3) := by decide +kernel
theorem dX1_init_34 : decode cX1_init 34 = .ok (.aload_n 0, 1) := by decide +kernel
theorem dX1_init_35 : decode cX1_init 35 = .ok (.iconst 0, 1) := by decide +kernel
theorem dX1_init_36 : decode cX1_init 36 = .ok (.putfield 30, 3) := by decide +kernel
theorem dX1_init_39 : decode cX1_init 39 = .ok (.aload_n 0, 1) := by decide +kernel
theorem dX1_init_40 : decode cX1_init 40 = .ok (.iconst 0, 1) := by decide +kernel
theorem dX1_init_41 : decode cX1_init 41 = .ok (.putfield 33, 3) := by decide +kernel
theorem dX1_init_44 : decode cX1_init 44 = .ok (.iconst 0, 1) := by decide +kernel
theorem dX1_init_45 : decode cX1_init 45 = .ok (.istore_n 1, 1) := by decide +kernel
theorem dX1_init_46 : decode cX1_init 46 = .ok (.iload_n 1, 1) := by decide +kernel
theorem dX1_init_47 : decode cX1_init 47 = .ok (.bipush 7, 2) := by decide +kernel
theorem dX1_init_49 : decode cX1_init 49 = .ok (.if_icmp .ge 22, 3) := by decide +kernel
theorem dX1_init_52 : decode cX1_init 52 = .ok (.aload_n 0, 1) := by decide +kernel
theorem dX1_init_53 : decode cX1_init 53 = .ok (.getfield 11, 3) := by decide +kernel
theorem dX1_init_56 : decode cX1_init 56 = .ok (.iload_n 1, 1) := by decide +kernel
theorem dX1_init_57 : decode cX1_init 57 = .ok (.new 9, 3) := by decide +kernel
theorem dX1_init_60 : decode cX1_init 60 = .ok (.dup, 1) := by decide +kernel
theorem dX1_init_61 : decode cX1_init 61 = .ok (.invokespecial 36, 3) := by decide +kernel
theorem dX1_init_64 : decode cX1_init 64 = .ok (.aastore, 1) := by decide +kernel
theorem dX1_init_65 : decode cX1_init 65 = .ok (.iinc 1 1, 3) := by decide +kernel
theorem dX1_init_68 : decode cX1_init 68 = .ok (.goto (-22), 3) := by decide +kernel
theorem dX1_init_71 : decode cX1_init 71 = .ok (.return_, 1) := by decide +kernel
theorem dX1_copyFrom_0 : decode cX1_copyFrom 0 = .ok (.iconst 0, 1) := by decide +kernel
theorem dX1_copyFrom_1 : decode cX1_copyFrom 1 = .ok (.istore_n 2, 1) := by decide +kernel
theorem dX1_copyFrom_2 : decode cX1_copyFrom 2 = .ok (.iload_n 2, 1) := by decide +kernel
theorem dX1_copyFrom_3 : decode cX1_copyFrom 3 = .ok (.bipush 7, 2) := by decide +kernel
theorem dX1_copyFrom_5 : decode cX1_copyFrom 5 = .ok (.if_icmp .ge 24, 3) := by decide +kernel
theorem dX1_copyFrom_8 : decode cX1_copyFrom 8 = .ok (.aload_n 0, 1) := by decide +kernel
theorem dX1_copyFrom_9 : decode cX1_copyFrom 9 = .ok (.getfield 11, 3) := by decide +kernel
theorem dX1_copyFrom_12 : decode cX1_copyFrom 12 = .ok (.iload_n 2, 1) := by decide +kernel
theorem dX1_copyFrom_13 : decode cX1_copyFrom 13 = .ok (.aaload, 1) := by decide +kernel
theorem dX1_copyFrom_14 : decode cX1_copyFrom 14 = .ok (.aload_n 1, 1) := by decide +kernel
theorem dX1_copyFrom_15 : decode cX1_copyFrom 15 = .ok (.getfield 11, 3) := by decide +kernel
theorem dX1_copyFrom_18 : decode cX1_copyFrom 18 = .ok (.iload_n 2, 1) := by decide +kernel
theorem dX1_copyFrom_19 : decode cX1_copyFrom 19 = .ok (.aaload, 1) := by decide +kernel
theorem dX1_copyFrom_20 : decode cX1_copyFrom 20 = .ok (.invokevirtual 37, 3) := by decide +kernel
theorem dX1_copyFrom_23 : decode cX1_copyFrom 23 = .ok (.iinc 2 1, 3) := by decide +kernel
theorem dX1_copyFrom_26 : decode cX1_copyFrom 26 = .ok (.goto (-24), 3) := by decide +kernel
theorem dX1_copyFrom_29 : decode cX1_copyFrom 29 = .ok (.aload_n 0, 1) := by decide +kernel
theorem dX1_copyFrom_30 : decode cX1_copyFrom 30 = .ok (.aload_n 1, 1) := by decide +kernel
theorem dX1_copyFrom_31 : decode cX1_copyFrom 31 = .ok (.getfield 17, 3) := by decide +kernel
theorem dX1_copyFrom_34 : decode cX1_copyFrom 34 = .ok (.putfield 17, 3) := by decide +kernel
theorem dX1_copyFrom_37 : decode cX1_copyFrom 37 = .ok (.aload_n 0, 1) := by decide +kernel
theorem dX1_copyFrom_38 : decode cX1_copyFrom 38 = .ok (.aload_n 1, 1) := by decide +kernel
theorem dX1_copyFrom_39 : decode cX1_copyFrom 39 = .ok (.getfield 21, 3) := by decide +kernel
theorem dX1_copyFrom_42 : decode cX1_copyFrom 42 = .ok (.putfield 21, 3) := by decide +kernel
theorem dX1_copyFrom_45 : decode cX1_copyFrom 45 = .ok (.aload_n 0, 1) := by decide +kernel
theorem dX1_copyFrom_46 : decode cX1_copyFrom 46 = .ok (.aload_n 1, 1) := by decide +kernel
theorem dX1_copyFrom_47 : decode cX1_copyFrom 47 = .ok (.getfield 24, 3) := by decide +kernel
theorem dX1_copyFrom_50 : decode cX1_copyFrom 50 = .ok (.putfield 24, 3) := by decide +kernel
theorem dX1_copyFrom_53 : decode cX1_copyFrom 53 = .ok (.aload_n 0, 1) := by decide +kernel
theorem dX1_copyFrom_54 : decode cX1_copyFrom 54 = .ok (.aload_n 1, 1) := by decide +kernel
theorem dX1_copyFrom_55 : decode cX1_copyFrom 55 = .ok (.getfield 27, 3) := by decide +kernel
theorem dX1_copyFrom_58 : decode cX1_copyFrom 58 = .ok (.putfield 27, 3) := by decide +kernel
theorem dX1_copyFrom_61 : decode cX1_copyFrom 61 = .ok (.aload_n 0, 1) := by decide +kernel
theorem dX1_copyFrom_62 : decode cX1_copyFrom 62 = .ok (.aload_n 1, 1) := by decide +kernel
theorem dX1_copyFrom_63 : decode cX1_copyFrom 63 = .ok (.getfield 30, 3) := by decide +kernel
theorem dX1_copyFrom_66 : decode cX1_copyFrom 66 = .ok (.putfield 30, 3) := by decide +kernel
theorem dX1_copyFrom_69 : decode cX1_copyFrom 69 = .ok (.aload_n 0, 1) := by decide +kernel
theorem dX1_copyFrom_70 : decode cX1_copyFrom 70 = .ok (.aload_n 1, 1) := by decide +kernel
theorem dX1_copyFrom_71 : decode cX1_copyFrom 71 = .ok (.getfield 33, 3) := by decide +kernel
theorem dX1_copyFrom_74 : decode cX1_copyFrom 74 = .ok (.putfield 33, 3) := by decide +kernel
theorem dX1_copyFrom_77 : decode cX1_copyFrom 77 = .ok (.return_, 1) := by decide +kernel
theorem dX1_tiePart_0 : decode cX1_tiePart 0 = .ok (.aload_n 1, 1) := by decide +kernel
theorem dX1_tiePart_1 : decode cX1_tiePart 1 = .ok (.iload_n 2, 1) := by decide +kernel
theorem dX1_tiePart_2 : decode cX1_tiePart 2 = .ok (.aload_n 0, 1) := by decide +kernel
theorem dX1_tiePart_3 : decode cX1_tiePart 3 = .ok (.getfield 17, 3) := by decide +kernel
theorem dX1_tiePart_6 : decode cX1_tiePart 6 = .ok (.invokevirtual 41, 3) := by decide +kernel
theorem dX1_tiePart_9 : decode cX1_tiePart 9 = .ok (.istore_n 3, 1) := by decide +kernel
theorem dX1_tiePart_10 : decode cX1_tiePart 10 = .ok (.iload_n 3, 1) := by decide +kernel
theorem dX1_tiePart_11 : decode cX1_tiePart 11 = .ok (.ifCond .eq 15, 3) := by decide +kernel
theorem dX1_tiePart_14 : decode cX1_tiePart 14 = .ok (.aload_n 0, 1) := by decide +kernel
theorem dX1_tiePart_15 : decode cX1_tiePart 15 = .ok (.dup, 1) := by decide +kernel
theorem dX1_tiePart_16 : decode cX1_tiePart 16 = .ok (.getfield 33, 3) := by decide +kernel
theorem dX1_tiePart_19 : decode cX1_tiePart 19 = .ok (.iconst 1, 1) := by decide +kernel
theorem dX1_tiePart_20 : decode cX1_tiePart 20 = .ok (.iadd, 1) := by decide +kernel
theorem dX1_tiePart_21 : decode cX1_tiePart 21 = .ok (.putfield 33, 3) := by decide +kernel
theorem dX1_tiePart_24 : decode cX1_tiePart 24 = .ok (.iload_n 3, 1) := by decide +kernel
theorem dX1_tiePart_25 : decode cX1_tiePart 25 = .ok (.ireturn, 1) := by decide +kernel
theorem dX1_tiePart_26 : decode cX1_tiePart 26 = .ok (.aload_n 1, 1) := by decide +kernel
theorem dX1_tiePart_27 : decode cX1_tiePart 27 = .ok (.invokevirtual 45, 3) := by decide +kernel
theorem dX1_tiePart_30 : decode cX1_tiePart 30 = .ok (.istore 4, 2) := by decide +kernel
theorem dX1_tiePart_32 : decode cX1_tiePart 32 = .ok (.aload_n 1, 1) := by decide +kernel
theorem dX1_tiePart_33 : decode cX1_tiePart 33 = .ok (.invokevirtual 49, 3) := by decide +kernel
theorem dX1_tiePart_36 : decode cX1_tiePart 36 = .ok (.istore 5, 2) := by decide +kernel
theorem dX1_tiePart_38 : decode cX1_tiePart 38 = .ok (.aload_n 1, 1) := by decide +kernel
theorem dX1_tiePart_39 : decode cX1_tiePart 39 = .ok (.iload_n 2, 1) := by decide +kernel
theorem dX1_tiePart_40 : decode cX1_tiePart 40 = .ok (.invokevirtual 52, 3) := by decide +kernel
theorem dX1_tiePart_43 : decode cX1_tiePart 43 = .ok (.bipush 10, 2) := by decide +kernel
theorem dX1_tiePart_45 : decode cX1_tiePart 45 = .ok (.aload_n 0, 1) := by decide +kernel
theorem dX1_tiePart_46 : decode cX1_tiePart 46 = .ok (.aload_n 1, 1) := by decide +kernel
theorem dX1_tiePart_47 : decode cX1_tiePart 47 = .ok (.iload 4, 2) := by decide +kernel
theorem dX1_tiePart_49 : decode cX1_tiePart 49 = .ok (.iload 5, 2) := by decide +kernel
theorem dX1_tiePart_51 : decode cX1_tiePart 51 = .ok (.invokevirtual 56, 3) := by decide +kernel
theorem dX1_tiePart_54 : decode cX1_tiePart 54 = .ok (.iadd, 1) := by decide +kernel
theorem dX1_tiePart_55 : decode cX1_tiePart 55 = .ok (.ireturn, 1) := by decide +kernel
theorem dX1_tieCord_0 : decode cX1_tieCord 0 = .ok (.aload_n 1, 1) := by decide +kernel
theorem dX1_tieCord_1 : decode cX1_tieCord 1 = .ok (.invokevirtual 60, 3) := by decide +kernel
theorem dX1_tieCord_4 : decode cX1_tieCord 4 = .ok (.istore_n 3, 1) := by decide +kernel
theorem dX1_tieCord_5 : decode cX1_tieCord 5 = .ok (.iload_n 3, 1) := by decide +kernel
theorem dX1_tieCord_6 : decode cX1_tieCord 6 = .ok (.ifCond .ne 7, 3) := by decide +kernel
theorem dX1_tieCord_9 : decode cX1_tieCord 9 = .ok (.iconst 0, 1) := by decide +kernel
theorem dX1_tieCord_10 : decode cX1_tieCord 10 = .ok (.goto 9, 3) := by decide +kernel
theorem dX1_tieCord_13 : decode cX1_tieCord 13 = .ok (.aload_n 0, 1) := by decide +kernel
theorem dX1_tieCord_14 : decode cX1_tieCord 14 = .ok (.aload_n 2, 1) := by decide +kernel
theorem dX1_tieCord_15 : decode cX1_tieCord 15 = .ok (.iload_n 3, 1) := by decide +kernel
theorem dX1_tieCord_16 : decode cX1_tieCord 16 = .ok (.invokevirtual 63, 3) := by decide +kernel
theorem dX1_tieCord_19 : decode cX1_tieCord 19 = .ok (.ireturn, 1) := by decide +kernel
theorem dX1_tieLack_0 : decode cX1_tieLack 0 = .ok (.aload_n 1, 1) := by decide +kernel
theorem dX1_tieLack_1 : decode cX1_tieLack 1 = .ok (.invokevirtual 67, 3) := by decide +kernel
theorem dX1_tieLack_4 : decode cX1_tieLack 4 = .ok (.istore_n 2, 1) := by decide +kernel
theorem dX1_tieLack_5 : decode cX1_tieLack 5 = .ok (.iload_n 2, 1) := by decide +kernel
theorem dX1_tieLack_6 : decode cX1_tieLack 6 = .ok (.ifCond .ne 5, 3) := by decide +kernel
theorem dX1_tieLack_9 : decode cX1_tieLack 9 = .ok (.iconst 0, 1) := by decide +kernel
theorem dX1_tieLack_10 : decode cX1_tieLack 10 = .ok (.ireturn, 1) := by decide +kernel
theorem dX1_tieLack_11 : decode cX1_tieLack 11 = .ok (.aload_n 1, 1) := by decide +kernel
theorem dX1_tieLack_12 : decode cX1_tieLack 12 = .ok (.iload_n 2, 1) := by decide +kernel
theorem dX1_tieLack_13 : decode cX1_tieLack 13 = .ok (.aload_n 0, 1) := by decide +kernel
theorem dX1_tieLack_14 : decode cX1_tieLack 14 = .ok (.getfield 17, 3) := by decide +kernel
theorem dX1_tieLack_17 : decode cX1_tieLack 17 = .ok (.invokevirtual 70, 3) := by decide +kernel
theorem dX1_tieLack_20 : decode cX1_tieLack 20 = .ok (.istore_n 3, 1) := by decide +kernel
theorem dX1_tieLack_21 : decode cX1_tieLack 21 = .ok (.iload_n 3, 1) := by decide +kernel
theorem dX1_tieLack_22 : decode cX1_tieLack 22 = .ok (.ifCond .eq 16, 3) := by decide +kernel
theorem dX1_tieLack_25 : decode cX1_tieLack 25 = .ok (.aload_n 0, 1) := by decide +kernel
theorem dX1_tieLack_26 : decode cX1_tieLack 26 = .ok (.dup, 1) := by decide +kernel
theorem dX1_tieLack_27 : decode cX1_tieLack 27 = .ok (.getfield 33, 3) := by decide +kernel
theorem dX1_tieLack_30 : decode cX1_tieLack 30 = .ok (.iconst 1, 1) := by decide +kernel
theorem dX1_tieLack_31 : decode cX1_tieLack 31 = .ok (.iadd, 1) := by decide +kernel
theorem dX1_tieLack_32 : decode cX1_tieLack 32 = .ok (.putfield 33, 3) := by decide +kernel
theorem dX1_tieLack_35 : decode cX1_tieLack 35 = .ok (.iload_n 3, 1) := by decide +kernel
theorem dX1_tieLack_36 : decode cX1_tieLack 36 = .ok (.ineg, 1) := by decide +kernel
theorem dX1_tieLack_37 : decode cX1_tieLack 37 = .ok (.ireturn, 1) := by decide +kernel
theorem dX1_tieLack_38 : decode cX1_tieLack 38 = .ok (.aload_n 1, 1) := by decide +kernel
theorem dX1_tieLack_39 : decode cX1_tieLack 39 = .ok (.invokevirtual 45, 3) := by decide +kernel
theorem dX1_tieLack_42 : decode cX1_tieLack 42 = .ok (.istore 4, 2) := by decide +kernel
theorem dX1_tieLack_44 : decode cX1_tieLack 44 = .ok (.aload_n 1, 1) := by decide +kernel
theorem dX1_tieLack_45 : decode cX1_tieLack 45 = .ok (.invokevirtual 49, 3) := by decide +kernel
theorem dX1_tieLack_48 : decode cX1_tieLack 48 = .ok (.istore 5, 2) := by decide +kernel
theorem dX1_tieLack_50 : decode cX1_tieLack 50 = .ok (.aload_n 1, 1) := by decide +kernel
theorem dX1_tieLack_51 : decode cX1_tieLack 51 = .ok (.iload_n 2, 1) := by decide +kernel
theorem dX1_tieLack_52 : decode cX1_tieLack 52 = .ok (.invokevirtual 73, 3) := by decide +kernel
theorem dX1_tieLack_55 : decode cX1_tieLack 55 = .ok (.aload_n 0, 1) := by decide +kernel
theorem dX1_tieLack_56 : decode cX1_tieLack 56 = .ok (.aload_n 1, 1) := by decide +kernel
theorem dX1_tieLack_57 : decode cX1_tieLack 57 = .ok (.iload 4, 2) := by decide +kernel
theorem dX1_tieLack_59 : decode cX1_tieLack 59 = .ok (.iload 5, 2) := by decide +kernel
theorem dX1_tieLack_61 : decode cX1_tieLack 61 = .ok (.invokevirtual 56, 3) := by decide +kernel
theorem dX1_tieLack_64 : decode cX1_tieLack 64 = .ok (.pop, 1) := by decide +kernel
theorem dX1_tieLack_65 : decode cX1_tieLack 65 = .ok (.iload_n 2, 1) := by decide +kernel
theorem dX1_tieLack_66 : decode cX1_tieLack 66 = .ok (.ireturn, 1) := by decide +kernel
theorem dX1_countTied_0 : decode cX1_countTied 0 = .ok (.aload_n 1, 1) := by decide +kernel
theorem dX1_countTied_1 : decode cX1_countTied 1 = .ok (.invokevirtual 49, 3) := by decide +kernel
theorem dX1_countTied_4 : decode cX1_countTied 4 = .ok (.iload_n 3, 1) := by decide +kernel
theorem dX1_countTied_5 : decode cX1_countTied 5 = .ok (.isub, 1) := by decide +kernel
theorem dX1_countTied_6 : decode cX1_countTied 6 = .ok (.istore 4, 2) := by decide +kernel
theorem dX1_countTied_8 : decode cX1_countTied 8 = .ok (.aload_n 0, 1) := by decide +kernel
theorem dX1_countTied_9 : decode cX1_countTied 9 = .ok (.dup, 1) := by decide +kernel
theorem dX1_countTied_10 : decode cX1_countTied 10 = .ok (.getfield 21, 3) := by decide +kernel
theorem dX1_countTied_13 : decode cX1_countTied 13 = .ok (.aload_n 1, 1) := by decide +kernel
theorem dX1_countTied_14 : decode cX1_countTied 14 = .ok (.invokevirtual 45, 3) := by decide +kernel
theorem dX1_countTied_17 : decode cX1_countTied 17 = .ok (.iload_n 2, 1) := by decide +kernel
theorem dX1_countTied_18 : decode cX1_countTied 18 = .ok (.isub, 1) := by decide +kernel
theorem dX1_countTied_19 : decode cX1_countTied 19 = .ok (.iadd, 1) := by decide +kernel
theorem dX1_countTied_20 : decode cX1_countTied 20 = .ok (.putfield 21, 3) := by decide +kernel
theorem dX1_countTied_23 : decode cX1_countTied 23 = .ok (.aload_n 0, 1) := by decide +kernel
theorem dX1_countTied_24 : decode cX1_countTied 24 = .ok (.dup, 1) := by decide +kernel
theorem dX1_countTied_25 : decode cX1_countTied 25 = .ok (.getfield 24, 3) := by decide +kernel
theorem dX1_countTied_28 : decode cX1_countTied 28 = .ok (.iload 4, 2) := by decide +kernel
theorem dX1_countTied_30 : decode cX1_countTied 30 = .ok (.iadd, 1) := by decide +kernel
theorem dX1_countTied_31 : decode cX1_countTied 31 = .ok (.putfield 24, 3) := by decide +kernel
theorem dX1_countTied_34 : decode cX1_countTied 34 = .ok (.iload 4, 2) := by decide +kernel
theorem dX1_countTied_36 : decode cX1_countTied 36 = .ok (.ireturn, 1) := by decide +kernel
theorem dX1_loosen_0 : decode cX1_loosen 0 = .ok (.aload_n 1, 1) := by decide +kernel
theorem dX1_loosen_1 : decode cX1_loosen 1 = .ok (.iload_n 2, 1) := by decide +kernel
theorem dX1_loosen_2 : decode cX1_loosen 2 = .ok (.invokevirtual 76, 3) := by decide +kernel
theorem dX1_loosen_5 : decode cX1_loosen 5 = .ok (.ifCond .ne 15, 3) := by decide +kernel
theorem dX1_loosen_8 : decode cX1_loosen 8 = .ok (.aload_n 0, 1) := by decide +kernel
theorem dX1_loosen_9 : decode cX1_loosen 9 = .ok (.dup, 1) := by decide +kernel
theorem dX1_loosen_10 : decode cX1_loosen 10 = .ok (.getfield 33, 3) := by decide +kernel
theorem dX1_loosen_13 : decode cX1_loosen 13 = .ok (.iconst 1, 1) := by decide +kernel
theorem dX1_loosen_14 : decode cX1_loosen 14 = .ok (.iadd, 1) := by decide +kernel
theorem dX1_loosen_15 : decode cX1_loosen 15 = .ok (.putfield 33, 3) := by decide +kernel
theorem dX1_loosen_18 : decode cX1_loosen 18 = .ok (.iconst (-1), 1) := by decide +kernel
theorem dX1_loosen_19 : decode cX1_loosen 19 = .ok (.ireturn, 1) := by decide +kernel
theorem dX1_loosen_20 : decode cX1_loosen 20 = .ok (.aload_n 1, 1) := by decide +kernel
theorem dX1_loosen_21 : decode cX1_loosen 21 = .ok (.getfield 80, 3) := by decide +kernel
theorem dX1_loosen_24 : decode cX1_loosen 24 = .ok (.iload_n 2, 1) := by decide +kernel
theorem dX1_loosen_25 : decode cX1_loosen 25 = .ok (.dup2, 1) := by decide +kernel
theorem dX1_loosen_26 : decode cX1_loosen 26 = .ok (.iaload, 1) := by decide +kernel
theorem dX1_loosen_27 : decode cX1_loosen 27 = .ok (.iconst 1, 1) := by decide +kernel
theorem dX1_loosen_28 : decode cX1_loosen 28 = .ok (.isub, 1) := by decide +kernel
theorem dX1_loosen_29 : decode cX1_loosen 29 = .ok (.iastore, 1) := by decide +kernel
theorem dX1_loosen_30 : decode cX1_loosen 30 = .ok (.aload_n 1, 1) := by decide +kernel
theorem dX1_loosen_31 : decode cX1_loosen 31 = .ok (.dup, 1) := by decide +kernel
theorem dX1_loosen_32 : decode cX1_loosen 32 = .ok (.getfield 84, 3) := by decide +kernel
theorem dX1_loosen_35 : decode cX1_loosen 35 = .ok (.iconst 1, 1) := by decide +kernel
theorem dX1_loosen_36 : decode cX1_loosen 36 = .ok (.iadd, 1) := by decide +kernel
theorem dX1_loosen_37 : decode cX1_loosen 37 = .ok (.putfield 84, 3) := by decide +kernel
theorem dX1_loosen_40 : decode cX1_loosen 40 = .ok (.aload_n 0, 1) := by decide +kernel
theorem dX1_loosen_41 : decode cX1_loosen 41 = .ok (.dup, 1) := by decide +kernel
theorem dX1_loosen_42 : decode cX1_loosen 42 = .ok (.getfield 27, 3) := by decide +kernel
theorem dX1_loosen_45 : decode cX1_loosen 45 = .ok (.iconst 1, 1) := by decide +kernel
theorem dX1_loosen_46 : decode cX1_loosen 46 = .ok (.iadd, 1) := by decide +kernel
theorem dX1_loosen_47 : decode cX1_loosen 47 = .ok (.putfield 27, 3) := by decide +kernel
theorem dX1_loosen_50 : decode cX1_loosen 50 = .ok (.aload_n 1, 1) := by decide +kernel
theorem dX1_loosen_51 : decode cX1_loosen 51 = .ok (.iload_n 2, 1) := by decide +kernel
theorem dX1_loosen_52 : decode cX1_loosen 52 = .ok (.invokevirtual 76, 3) := by decide +kernel
theorem dX1_loosen_55 : decode cX1_loosen 55 = .ok (.ireturn, 1) := by decide +kernel
theorem dX1_replace_0 : decode cX1_replace 0 = .ok (.aload_n 1, 1) := by decide +kernel
theorem dX1_replace_1 : decode cX1_replace 1 = .ok (.invokevirtual 60, 3) := by decide +kernel
theorem dX1_replace_4 : decode cX1_replace 4 = .ok (.istore_n 2, 1) := by decide +kernel
theorem dX1_replace_5 : decode cX1_replace 5 = .ok (.aload_n 0, 1) := by decide +kernel
theorem dX1_replace_6 : decode cX1_replace 6 = .ok (.dup, 1) := by decide +kernel
theorem dX1_replace_7 : decode cX1_replace 7 = .ok (.getfield 30, 3) := by decide +kernel
theorem dX1_replace_10 : decode cX1_replace 10 = .ok (.aload_n 1, 1) := by decide +kernel
theorem dX1_replace_11 : decode cX1_replace 11 = .ok (.invokevirtual 85, 3) := by decide +kernel
theorem dX1_replace_14 : decode cX1_replace 14 = .ok (.iadd, 1) := by decide +kernel
theorem dX1_replace_15 : decode cX1_replace 15 = .ok (.putfield 30, 3) := by decide +kernel
theorem dX1_replace_18 : decode cX1_replace 18 = .ok (.aload_n 1, 1) := by decide +kernel
theorem dX1_replace_19 : decode cX1_replace 19 = .ok (.invokevirtual 88, 3) := by decide +kernel
theorem dX1_replace_22 : decode cX1_replace 22 = .ok (.iload_n 2, 1) := by decide +kernel
theorem dX1_replace_23 : decode cX1_replace 23 = .ok (.ireturn, 1) := by decide +kernel
theorem dX1_tellEach_0 : decode cX1_tellEach 0 = .ok (.iconst 0, 1) := by decide +kernel
theorem dX1_tellEach_1 : decode cX1_tellEach 1 = .ok (.istore_n 2, 1) := by decide +kernel
theorem dX1_tellEach_2 : decode cX1_tellEach 2 = .ok (.iload_n 2, 1) := by decide +kernel
theorem dX1_tellEach_3 : decode cX1_tellEach 3 = .ok (.bipush 7, 2) := by decide +kernel
theorem dX1_tellEach_5 : decode cX1_tellEach 5 = .ok (.if_icmp .ge 27, 3) := by decide +kernel
theorem dX1_tellEach_8 : decode cX1_tellEach 8 = .ok (.iload_n 2, 1) := by decide +kernel
theorem dX1_tellEach_9 : decode cX1_tellEach 9 = .ok (.aload_n 1, 1) := by decide +kernel
theorem dX1_tellEach_10 : decode cX1_tellEach 10 = .ok (.arraylength, 1) := by decide +kernel
theorem dX1_tellEach_11 : decode cX1_tellEach 11 = .ok (.if_icmp .ge 21, 3) := by decide +kernel
theorem dX1_tellEach_14 : decode cX1_tellEach 14 = .ok (.aload_n 1, 1) := by decide +kernel
theorem dX1_tellEach_15 : decode cX1_tellEach 15 = .ok (.iload_n 2, 1) := by decide +kernel
theorem dX1_tellEach_16 : decode cX1_tellEach 16 = .ok (.aload_n 0, 1) := by decide +kernel
theorem dX1_tellEach_17 : decode cX1_tellEach 17 = .ok (.getfield 11, 3) := by decide +kernel
theorem dX1_tellEach_20 : decode cX1_tellEach 20 = .ok (.iload_n 2, 1) := by decide +kernel
theorem dX1_tellEach_21 : decode cX1_tellEach 21 = .ok (.aaload, 1) := by decide +kernel
theorem dX1_tellEach_22 : decode cX1_tellEach 22 = .ok (.invokevirtual 60, 3) := by decide +kernel
theorem dX1_tellEach_25 : decode cX1_tellEach 25 = .ok (.iastore, 1) := by decide +kernel
theorem dX1_tellEach_26 : decode cX1_tellEach 26 = .ok (.iinc 2 1, 3) := by decide +kernel
theorem dX1_tellEach_29 : decode cX1_tellEach 29 = .ok (.goto (-27), 3) := by decide +kernel
theorem dX1_tellEach_32 : decode cX1_tellEach 32 = .ok (.return_, 1) := by decide +kernel
theorem dX1_told_0 : decode cX1_told 0 = .ok (.iconst 0, 1) := by decide +kernel
theorem dX1_told_1 : decode cX1_told 1 = .ok (.istore_n 1, 1) := by decide +kernel
theorem dX1_told_2 : decode cX1_told 2 = .ok (.aload_n 0, 1) := by decide +kernel
theorem dX1_told_3 : decode cX1_told 3 = .ok (.getfield 11, 3) := by decide +kernel
theorem dX1_told_6 : decode cX1_told 6 = .ok (.astore_n 2, 1) := by decide +kernel
theorem dX1_told_7 : decode cX1_told 7 = .ok (.aload_n 2, 1) := by decide +kernel
theorem dX1_told_8 : decode cX1_told 8 = .ok (.arraylength, 1) := by decide +kernel
theorem dX1_told_9 : decode cX1_told 9 = .ok (.istore_n 3, 1) := by decide +kernel
theorem dX1_told_10 : decode cX1_told 10 = .ok (.iconst 0, 1) := by decide +kernel
theorem dX1_told_11 : decode cX1_told 11 = .ok (.istore 4, 2) := by decide +kernel
theorem dX1_told_13 : decode cX1_told 13 = .ok (.iload 4, 2) := by decide +kernel
theorem dX1_told_15 : decode cX1_told 15 = .ok (.iload_n 3, 1) := by decide +kernel
theorem dX1_told_16 : decode cX1_told 16 = .ok (.if_icmp .ge 23, 3) := by decide +kernel
theorem dX1_told_19 : decode cX1_told 19 = .ok (.aload_n 2, 1) := by decide +kernel
theorem dX1_told_20 : decode cX1_told 20 = .ok (.iload 4, 2) := by decide +kernel
theorem dX1_told_22 : decode cX1_told 22 = .ok (.aaload, 1) := by decide +kernel
theorem dX1_told_23 : decode cX1_told 23 = .ok (.astore 5, 2) := by decide +kernel
theorem dX1_told_25 : decode cX1_told 25 = .ok (.iload_n 1, 1) := by decide +kernel
theorem dX1_told_26 : decode cX1_told 26 = .ok (.aload 5, 2) := by decide +kernel
theorem dX1_told_28 : decode cX1_told 28 = .ok (.invokevirtual 60, 3) := by decide +kernel
theorem dX1_told_31 : decode cX1_told 31 = .ok (.iadd, 1) := by decide +kernel
theorem dX1_told_32 : decode cX1_told 32 = .ok (.istore_n 1, 1) := by decide +kernel
theorem dX1_told_33 : decode cX1_told 33 = .ok (.iinc 4 1, 3) := by decide +kernel
theorem dX1_told_36 : decode cX1_told 36 = .ok (.goto (-23), 3) := by decide +kernel
theorem dX1_told_39 : decode cX1_told 39 = .ok (.iload_n 1, 1) := by decide +kernel
theorem dX1_told_40 : decode cX1_told 40 = .ok (.ireturn, 1) := by decide +kernel
theorem dX1_toldInHue_0 : decode cX1_toldInHue 0 = .ok (.iconst 0, 1) := by decide +kernel
theorem dX1_toldInHue_1 : decode cX1_toldInHue 1 = .ok (.istore_n 2, 1) := by decide +kernel
theorem dX1_toldInHue_2 : decode cX1_toldInHue 2 = .ok (.aload_n 0, 1) := by decide +kernel
theorem dX1_toldInHue_3 : decode cX1_toldInHue 3 = .ok (.getfield 11, 3) := by decide +kernel
theorem dX1_toldInHue_6 : decode cX1_toldInHue 6 = .ok (.astore_n 3, 1) := by decide +kernel
theorem dX1_toldInHue_7 : decode cX1_toldInHue 7 = .ok (.aload_n 3, 1) := by decide +kernel
theorem dX1_toldInHue_8 : decode cX1_toldInHue 8 = .ok (.arraylength, 1) := by decide +kernel
theorem dX1_toldInHue_9 : decode cX1_toldInHue 9 = .ok (.istore 4, 2) := by decide +kernel
theorem dX1_toldInHue_11 : decode cX1_toldInHue 11 = .ok (.iconst 0, 1) := by decide +kernel
theorem dX1_toldInHue_12 : decode cX1_toldInHue 12 = .ok (.istore 5, 2) := by decide +kernel
theorem dX1_toldInHue_14 : decode cX1_toldInHue 14 = .ok (.iload 5, 2) := by decide +kernel
theorem dX1_toldInHue_16 : decode cX1_toldInHue 16 = .ok (.iload 4, 2) := by decide +kernel
theorem dX1_toldInHue_18 : decode cX1_toldInHue 18 = .ok (.if_icmp .ge 32, 3) := by decide +kernel
theorem dX1_toldInHue_21 : decode cX1_toldInHue 21 = .ok (.aload_n 3, 1) := by decide +kernel
theorem dX1_toldInHue_22 : decode cX1_toldInHue 22 = .ok (.iload 5, 2) := by decide +kernel
theorem dX1_toldInHue_24 : decode cX1_toldInHue 24 = .ok (.aaload, 1) := by decide +kernel
theorem dX1_toldInHue_25 : decode cX1_toldInHue 25 = .ok (.astore 6, 2) := by decide +kernel
theorem dX1_toldInHue_27 : decode cX1_toldInHue 27 = .ok (.aload 6, 2) := by decide +kernel
theorem dX1_toldInHue_29 : decode cX1_toldInHue 29 = .ok (.getfield 91, 3) := by decide +kernel
theorem dX1_toldInHue_32 : decode cX1_toldInHue 32 = .ok (.iload_n 1, 1) := by decide +kernel
theorem dX1_toldInHue_33 : decode cX1_toldInHue 33 = .ok (.if_icmp .ne 11, 3) := by decide +kernel
theorem dX1_toldInHue_36 : decode cX1_toldInHue 36 = .ok (.iload_n 2, 1) := by decide +kernel
theorem dX1_toldInHue_37 : decode cX1_toldInHue 37 = .ok (.aload 6, 2) := by decide +kernel
theorem dX1_toldInHue_39 : decode cX1_toldInHue 39 = .ok (.invokevirtual 60, 3) := by decide +kernel
theorem dX1_toldInHue_42 : decode cX1_toldInHue 42 = .ok (.iadd, 1) := by decide +kernel
theorem dX1_toldInHue_43 : decode cX1_toldInHue 43 = .ok (.istore_n 2, 1) := by decide +kernel
theorem dX1_toldInHue_44 : decode cX1_toldInHue 44 = .ok (.iinc 5 1, 3) := by decide +kernel
theorem dX1_toldInHue_47 : decode cX1_toldInHue 47 = .ok (.goto (-33), 3) := by decide +kernel
theorem dX1_toldInHue_50 : decode cX1_toldInHue 50 = .ok (.iload_n 2, 1) := by decide +kernel
theorem dX1_toldInHue_51 : decode cX1_toldInHue 51 = .ok (.ireturn, 1) := by decide +kernel
theorem dX1_knots_0 : decode cX1_knots 0 = .ok (.iconst 0, 1) := by decide +kernel
theorem dX1_knots_1 : decode cX1_knots 1 = .ok (.istore_n 1, 1) := by decide +kernel
theorem dX1_knots_2 : decode cX1_knots 2 = .ok (.aload_n 0, 1) := by decide +kernel
theorem dX1_knots_3 : decode cX1_knots 3 = .ok (.getfield 11, 3) := by decide +kernel
theorem dX1_knots_6 : decode cX1_knots 6 = .ok (.astore_n 2, 1) := by decide +kernel
theorem dX1_knots_7 : decode cX1_knots 7 = .ok (.aload_n 2, 1) := by decide +kernel
theorem dX1_knots_8 : decode cX1_knots 8 = .ok (.arraylength, 1) := by decide +kernel
theorem dX1_knots_9 : decode cX1_knots 9 = .ok (.istore_n 3, 1) := by decide +kernel
theorem dX1_knots_10 : decode cX1_knots 10 = .ok (.iconst 0, 1) := by decide +kernel
theorem dX1_knots_11 : decode cX1_knots 11 = .ok (.istore 4, 2) := by decide +kernel
theorem dX1_knots_13 : decode cX1_knots 13 = .ok (.iload 4, 2) := by decide +kernel
theorem dX1_knots_15 : decode cX1_knots 15 = .ok (.iload_n 3, 1) := by decide +kernel
theorem dX1_knots_16 : decode cX1_knots 16 = .ok (.if_icmp .ge 23, 3) := by decide +kernel
theorem dX1_knots_19 : decode cX1_knots 19 = .ok (.aload_n 2, 1) := by decide +kernel
theorem dX1_knots_20 : decode cX1_knots 20 = .ok (.iload 4, 2) := by decide +kernel
theorem dX1_knots_22 : decode cX1_knots 22 = .ok (.aaload, 1) := by decide +kernel
theorem dX1_knots_23 : decode cX1_knots 23 = .ok (.astore 5, 2) := by decide +kernel
theorem dX1_knots_25 : decode cX1_knots 25 = .ok (.iload_n 1, 1) := by decide +kernel
theorem dX1_knots_26 : decode cX1_knots 26 = .ok (.aload 5, 2) := by decide +kernel
theorem dX1_knots_28 : decode cX1_knots 28 = .ok (.invokevirtual 45, 3) := by decide +kernel
theorem dX1_knots_31 : decode cX1_knots 31 = .ok (.iadd, 1) := by decide +kernel
theorem dX1_knots_32 : decode cX1_knots 32 = .ok (.istore_n 1, 1) := by decide +kernel
theorem dX1_knots_33 : decode cX1_knots 33 = .ok (.iinc 4 1, 3) := by decide +kernel
theorem dX1_knots_36 : decode cX1_knots 36 = .ok (.goto (-23), 3) := by decide +kernel
theorem dX1_knots_39 : decode cX1_knots 39 = .ok (.iload_n 1, 1) := by decide +kernel
theorem dX1_knots_40 : decode cX1_knots 40 = .ok (.ireturn, 1) := by decide +kernel
theorem dX1_loops_0 : decode cX1_loops 0 = .ok (.iconst 0, 1) := by decide +kernel
theorem dX1_loops_1 : decode cX1_loops 1 = .ok (.istore_n 1, 1) := by decide +kernel
theorem dX1_loops_2 : decode cX1_loops 2 = .ok (.aload_n 0, 1) := by decide +kernel
theorem dX1_loops_3 : decode cX1_loops 3 = .ok (.getfield 11, 3) := by decide +kernel
theorem dX1_loops_6 : decode cX1_loops 6 = .ok (.astore_n 2, 1) := by decide +kernel
theorem dX1_loops_7 : decode cX1_loops 7 = .ok (.aload_n 2, 1) := by decide +kernel
theorem dX1_loops_8 : decode cX1_loops 8 = .ok (.arraylength, 1) := by decide +kernel
theorem dX1_loops_9 : decode cX1_loops 9 = .ok (.istore_n 3, 1) := by decide +kernel
theorem dX1_loops_10 : decode cX1_loops 10 = .ok (.iconst 0, 1) := by decide +kernel
theorem dX1_loops_11 : decode cX1_loops 11 = .ok (.istore 4, 2) := by decide +kernel
theorem dX1_loops_13 : decode cX1_loops 13 = .ok (.iload 4, 2) := by decide +kernel
theorem dX1_loops_15 : decode cX1_loops 15 = .ok (.iload_n 3, 1) := by decide +kernel
theorem dX1_loops_16 : decode cX1_loops 16 = .ok (.if_icmp .ge 23, 3) := by decide +kernel
theorem dX1_loops_19 : decode cX1_loops 19 = .ok (.aload_n 2, 1) := by decide +kernel
theorem dX1_loops_20 : decode cX1_loops 20 = .ok (.iload 4, 2) := by decide +kernel
theorem dX1_loops_22 : decode cX1_loops 22 = .ok (.aaload, 1) := by decide +kernel
theorem dX1_loops_23 : decode cX1_loops 23 = .ok (.astore 5, 2) := by decide +kernel
theorem dX1_loops_25 : decode cX1_loops 25 = .ok (.iload_n 1, 1) := by decide +kernel
theorem dX1_loops_26 : decode cX1_loops 26 = .ok (.aload 5, 2) := by decide +kernel
theorem dX1_loops_28 : decode cX1_loops 28 = .ok (.invokevirtual 49, 3) := by decide +kernel
theorem dX1_loops_31 : decode cX1_loops 31 = .ok (.iadd, 1) := by decide +kernel
theorem dX1_loops_32 : decode cX1_loops 32 = .ok (.istore_n 1, 1) := by decide +kernel
theorem dX1_loops_33 : decode cX1_loops 33 = .ok (.iinc 4 1, 3) := by decide +kernel
theorem dX1_loops_36 : decode cX1_loops 36 = .ok (.goto (-23), 3) := by decide +kernel
theorem dX1_loops_39 : decode cX1_loops 39 = .ok (.iload_n 1, 1) := by decide +kernel
theorem dX1_loops_40 : decode cX1_loops 40 = .ok (.ireturn, 1) := by decide +kernel
theorem dX1_ties_0 : decode cX1_ties 0 = .ok (.aload_n 0, 1) := by decide +kernel
theorem dX1_ties_1 : decode cX1_ties 1 = .ok (.invokevirtual 94, 3) := by decide +kernel
theorem dX1_ties_4 : decode cX1_ties 4 = .ok (.aload_n 0, 1) := by decide +kernel
theorem dX1_ties_5 : decode cX1_ties 5 = .ok (.invokevirtual 96, 3) := by decide +kernel
theorem dX1_ties_8 : decode cX1_ties 8 = .ok (.iadd, 1) := by decide +kernel
theorem dX1_ties_9 : decode cX1_ties 9 = .ok (.ireturn, 1) := by decide +kernel
theorem dX1_lacking_0 : decode cX1_lacking 0 = .ok (.iconst 0, 1) := by decide +kernel
theorem dX1_lacking_1 : decode cX1_lacking 1 = .ok (.istore_n 1, 1) := by decide +kernel
theorem dX1_lacking_2 : decode cX1_lacking 2 = .ok (.aload_n 0, 1) := by decide +kernel
theorem dX1_lacking_3 : decode cX1_lacking 3 = .ok (.getfield 11, 3) := by decide +kernel
theorem dX1_lacking_6 : decode cX1_lacking 6 = .ok (.astore_n 2, 1) := by decide +kernel
theorem dX1_lacking_7 : decode cX1_lacking 7 = .ok (.aload_n 2, 1) := by decide +kernel
theorem dX1_lacking_8 : decode cX1_lacking 8 = .ok (.arraylength, 1) := by decide +kernel
theorem dX1_lacking_9 : decode cX1_lacking 9 = .ok (.istore_n 3, 1) := by decide +kernel
theorem dX1_lacking_10 : decode cX1_lacking 10 = .ok (.iconst 0, 1) := by decide +kernel
theorem dX1_lacking_11 : decode cX1_lacking 11 = .ok (.istore 4, 2) := by decide +kernel
theorem dX1_lacking_13 : decode cX1_lacking 13 = .ok (.iload 4, 2) := by decide +kernel
theorem dX1_lacking_15 : decode cX1_lacking 15 = .ok (.iload_n 3, 1) := by decide +kernel
theorem dX1_lacking_16 : decode cX1_lacking 16 = .ok (.if_icmp .ge 26, 3) := by decide +kernel
theorem dX1_lacking_19 : decode cX1_lacking 19 = .ok (.aload_n 2, 1) := by decide +kernel
theorem dX1_lacking_20 : decode cX1_lacking 20 = .ok (.iload 4, 2) := by decide +kernel
theorem dX1_lacking_22 : decode cX1_lacking 22 = .ok (.aaload, 1) := by decide +kernel
theorem dX1_lacking_23 : decode cX1_lacking 23 = .ok (.astore 5, 2) := by decide +kernel
theorem dX1_lacking_25 : decode cX1_lacking 25 = .ok (.aload 5, 2) := by decide +kernel
theorem dX1_lacking_27 : decode cX1_lacking 27 = .ok (.invokevirtual 67, 3) := by decide +kernel
theorem dX1_lacking_30 : decode cX1_lacking 30 = .ok (.ifCond .le 6, 3) := by decide +kernel
theorem dX1_lacking_33 : decode cX1_lacking 33 = .ok (.iinc 1 1, 3) := by decide +kernel
theorem dX1_lacking_36 : decode cX1_lacking 36 = .ok (.iinc 4 1, 3) := by decide +kernel
theorem dX1_lacking_39 : decode cX1_lacking 39 = .ok (.goto (-26), 3) := by decide +kernel
theorem dX1_lacking_42 : decode cX1_lacking 42 = .ok (.iload_n 1, 1) := by decide +kernel
theorem dX1_lacking_43 : decode cX1_lacking 43 = .ok (.ireturn, 1) := by decide +kernel
theorem dX1_fullestCord_0 : decode cX1_fullestCord 0 = .ok (.iconst 0, 1) := by decide +kernel
theorem dX1_fullestCord_1 : decode cX1_fullestCord 1 = .ok (.istore_n 1, 1) := by decide +kernel
theorem dX1_fullestCord_2 : decode cX1_fullestCord 2 = .ok (.iconst 1, 1) := by decide +kernel
theorem dX1_fullestCord_3 : decode cX1_fullestCord 3 = .ok (.istore_n 2, 1) := by decide +kernel
theorem dX1_fullestCord_4 : decode cX1_fullestCord 4 = .ok (.iload_n 2, 1) := by decide +kernel
theorem dX1_fullestCord_5 : decode cX1_fullestCord 5 = .ok (.bipush 7, 2) := by decide +kernel
theorem dX1_fullestCord_7 : decode cX1_fullestCord 7 = .ok (.if_icmp .ge 32, 3) := by decide +kernel
theorem dX1_fullestCord_10 : decode cX1_fullestCord 10 = .ok (.aload_n 0, 1) := by decide +kernel
theorem dX1_fullestCord_11 : decode cX1_fullestCord 11 = .ok (.getfield 11, 3) := by decide +kernel
theorem dX1_fullestCord_14 : decode cX1_fullestCord 14 = .ok (.iload_n 2, 1) := by decide +kernel
theorem dX1_fullestCord_15 : decode cX1_fullestCord 15 = .ok (.aaload, 1) := by decide +kernel
theorem dX1_fullestCord_16 : decode cX1_fullestCord 16 = .ok (.invokevirtual 85, 3) := by decide +kernel
theorem dX1_fullestCord_19 : decode cX1_fullestCord 19 = .ok (.aload_n 0, 1) := by decide +kernel
theorem dX1_fullestCord_20 : decode cX1_fullestCord 20 = .ok (.getfield 11, 3) := by decide +kernel
theorem dX1_fullestCord_23 : decode cX1_fullestCord 23 = .ok (.iload_n 1, 1) := by decide +kernel
theorem dX1_fullestCord_24 : decode cX1_fullestCord 24 = .ok (.aaload, 1) := by decide +kernel
theorem dX1_fullestCord_25 : decode cX1_fullestCord 25 = .ok (.invokevirtual 85, 3) := by decide +kernel
theorem dX1_fullestCord_28 : decode cX1_fullestCord 28 = .ok (.if_icmp .le 5, 3) := by decide +kernel
theorem dX1_fullestCord_31 : decode cX1_fullestCord 31 = .ok (.iload_n 2, 1) := by decide +kernel
theorem dX1_fullestCord_32 : decode cX1_fullestCord 32 = .ok (.istore_n 1, 1) := by decide +kernel
theorem dX1_fullestCord_33 : decode cX1_fullestCord 33 = .ok (.iinc 2 1, 3) := by decide +kernel
theorem dX1_fullestCord_36 : decode cX1_fullestCord 36 = .ok (.goto (-32), 3) := by decide +kernel
theorem dX1_fullestCord_39 : decode cX1_fullestCord 39 = .ok (.iload_n 1, 1) := by decide +kernel
theorem dX1_fullestCord_40 : decode cX1_fullestCord 40 = .ok (.ireturn, 1) := by decide +kernel
theorem dX2_init_0 : decode cX2_init 0 = .ok (.aload_n 0, 1) := by decide +kernel
theorem dX2_init_1 : decode cX2_init 1 = .ok (.invokespecial 3, 3) := by decide +kernel
theorem dX2_init_4 : decode cX2_init 4 = .ok (.aload_n 0, 1) := by decide +kernel
theorem dX2_init_5 : decode cX2_init 5 = .ok (.bipush 6, 2) := by decide +kernel
theorem dX2_init_7 : decode cX2_init 7 = .ok (.anewarray 9, 3) := by decide +kernel
theorem dX2_init_10 : decode cX2_init 10 = .ok (.putfield 11, 3) := by decide +kernel
theorem dX2_init_13 : decode cX2_init 13 = .ok (.aload_n 0, 1) := by decide +kernel
theorem dX2_init_14 : decode cX2_init 14 = .ok (.iconst 0, 1) := by decide +kernel
theorem dX2_init_15 : decode cX2_init 15 = .ok (.putfield 17, 3) := by decide +kernel
theorem dX2_init_18 : decode cX2_init 18 = .ok (.aload_n 0, 1) := by decide +kernel
theorem dX2_init_19 : decode cX2_init 19 = .ok (.iconst 0, 1) := by decide +kernel
theorem dX2_init_20 : decode cX2_init 20 = .ok (.putfield 21, 3) := by decide +kernel
theorem dX2_init_23 : decode cX2_init 23 = .ok (.iconst 0, 1) := by decide +kernel
theorem dX2_init_24 : decode cX2_init 24 = .ok (.istore_n 1, 1) := by decide +kernel
theorem dX2_init_25 : decode cX2_init 25 = .ok (.iload_n 1, 1) := by decide +kernel
theorem dX2_init_26 : decode cX2_init 26 = .ok (.bipush 6, 2) := by decide +kernel
theorem dX2_init_28 : decode cX2_init 28 = .ok (.if_icmp .ge 22, 3) := by decide +kernel
theorem dX2_init_31 : decode cX2_init 31 = .ok (.aload_n 0, 1) := by decide +kernel
theorem dX2_init_32 : decode cX2_init 32 = .ok (.getfield 11, 3) := by decide +kernel
theorem dX2_init_35 : decode cX2_init 35 = .ok (.iload_n 1, 1) := by decide +kernel
theorem dX2_init_36 : decode cX2_init 36 = .ok (.new 9, 3) := by decide +kernel
theorem dX2_init_39 : decode cX2_init 39 = .ok (.dup, 1) := by decide +kernel
theorem dX2_init_40 : decode cX2_init 40 = .ok (.invokespecial 24, 3) := by decide +kernel
theorem dX2_init_43 : decode cX2_init 43 = .ok (.aastore, 1) := by decide +kernel
theorem dX2_init_44 : decode cX2_init 44 = .ok (.iinc 1 1, 3) := by decide +kernel
theorem dX2_init_47 : decode cX2_init 47 = .ok (.goto (-22), 3) := by decide +kernel
theorem dX2_init_50 : decode cX2_init 50 = .ok (.return_, 1) := by decide +kernel
theorem dX2_save_0 : decode cX2_save 0 = .ok (.aload_n 0, 1) := by decide +kernel
theorem dX2_save_1 : decode cX2_save 1 = .ok (.getfield 11, 3) := by decide +kernel
theorem dX2_save_4 : decode cX2_save 4 = .ok (.aload_n 0, 1) := by decide +kernel
theorem dX2_save_5 : decode cX2_save 5 = .ok (.getfield 17, 3) := by decide +kernel
theorem dX2_save_8 : decode cX2_save 8 = .ok (.aaload, 1) := by decide +kernel
theorem dX2_save_9 : decode cX2_save 9 = .ok (.aload_n 1, 1) := by decide +kernel
theorem dX2_save_10 : decode cX2_save 10 = .ok (.invokevirtual 25, 3) := by decide +kernel
theorem dX2_save_13 : decode cX2_save 13 = .ok (.aload_n 0, 1) := by decide +kernel
theorem dX2_save_14 : decode cX2_save 14 = .ok (.aload_n 0, 1) := by decide +kernel
theorem dX2_save_15 : decode cX2_save 15 = .ok (.getfield 17, 3) := by decide +kernel
theorem dX2_save_18 : decode cX2_save 18 = .ok (.iconst 1, 1) := by decide +kernel
theorem dX2_save_19 : decode cX2_save 19 = .ok (.iadd, 1) := by decide +kernel
theorem dX2_save_20 : decode cX2_save 20 = .ok (.bipush 6, 2) := by decide +kernel
theorem dX2_save_22 : decode cX2_save 22 = .ok (.irem, 1) := by decide +kernel
theorem dX2_save_23 : decode cX2_save 23 = .ok (.putfield 17, 3) := by decide +kernel
theorem dX2_save_26 : decode cX2_save 26 = .ok (.aload_n 0, 1) := by decide +kernel
theorem dX2_save_27 : decode cX2_save 27 = .ok (.aload_n 0, 1) := by decide +kernel
theorem dX2_save_28 : decode cX2_save 28 = .ok (.getfield 21, 3) := by decide +kernel
theorem dX2_save_31 : decode cX2_save 31 = .ok (.iconst 1, 1) := by decide +kernel
theorem dX2_save_32 : decode cX2_save 32 = .ok (.iadd, 1) := by decide +kernel
theorem dX2_save_33 : decode cX2_save 33 = .ok (.bipush 6, 2) := by decide +kernel
theorem dX2_save_35 : decode cX2_save 35 = .ok (.invokestatic 29, 3) := by decide +kernel
theorem dX2_save_38 : decode cX2_save 38 = .ok (.putfield 21, 3) := by decide +kernel
theorem dX2_save_41 : decode cX2_save 41 = .ok (.return_, 1) := by decide +kernel
theorem dX2_restore_0 : decode cX2_restore 0 = .ok (.aload_n 0, 1) := by decide +kernel
theorem dX2_restore_1 : decode cX2_restore 1 = .ok (.getfield 21, 3) := by decide +kernel
theorem dX2_restore_4 : decode cX2_restore 4 = .ok (.ifCond .le 42, 3) := by decide +kernel
theorem dX2_restore_7 : decode cX2_restore 7 = .ok (.aload_n 0, 1) := by decide +kernel
theorem dX2_restore_8 : decode cX2_restore 8 = .ok (.dup, 1) := by decide +kernel
theorem dX2_restore_9 : decode cX2_restore 9 = .ok (.getfield 21, 3) := by decide +kernel
theorem dX2_restore_12 : decode cX2_restore 12 = .ok (.iconst 1, 1) := by decide +kernel
theorem dX2_restore_13 : decode cX2_restore 13 = .ok (.isub, 1) := by decide +kernel
theorem dX2_restore_14 : decode cX2_restore 14 = .ok (.putfield 21, 3) := by decide +kernel
theorem dX2_restore_17 : decode cX2_restore 17 = .ok (.aload_n 0, 1) := by decide +kernel
theorem dX2_restore_18 : decode cX2_restore 18 = .ok (.aload_n 0, 1) := by decide +kernel
theorem dX2_restore_19 : decode cX2_restore 19 = .ok (.getfield 17, 3) := by decide +kernel
theorem dX2_restore_22 : decode cX2_restore 22 = .ok (.bipush 6, 2) := by decide +kernel
theorem dX2_restore_24 : decode cX2_restore 24 = .ok (.iadd, 1) := by decide +kernel
theorem dX2_restore_25 : decode cX2_restore 25 = .ok (.iconst 1, 1) := by decide +kernel
theorem dX2_restore_26 : decode cX2_restore 26 = .ok (.isub, 1) := by decide +kernel
theorem dX2_restore_27 : decode cX2_restore 27 = .ok (.bipush 6, 2) := by decide +kernel
theorem dX2_restore_29 : decode cX2_restore 29 = .ok (.irem, 1) := by decide +kernel
theorem dX2_restore_30 : decode cX2_restore 30 = .ok (.putfield 17, 3) := by decide +kernel
theorem dX2_restore_33 : decode cX2_restore 33 = .ok (.aload_n 1, 1) := by decide +kernel
theorem dX2_restore_34 : decode cX2_restore 34 = .ok (.aload_n 0, 1) := by decide +kernel
theorem dX2_restore_35 : decode cX2_restore 35 = .ok (.getfield 11, 3) := by decide +kernel
theorem dX2_restore_38 : decode cX2_restore 38 = .ok (.aload_n 0, 1) := by decide +kernel
theorem dX2_restore_39 : decode cX2_restore 39 = .ok (.getfield 17, 3) := by decide +kernel
theorem dX2_restore_42 : decode cX2_restore 42 = .ok (.aaload, 1) := by decide +kernel
theorem dX2_restore_43 : decode cX2_restore 43 = .ok (.invokevirtual 25, 3) := by decide +kernel
theorem dX2_restore_46 : decode cX2_restore 46 = .ok (.return_, 1) := by decide +kernel
theorem dX3_init_0 : decode cX3_init 0 = .ok (.aload_n 0, 1) := by decide +kernel
theorem dX3_init_1 : decode cX3_init 1 = .ok (.invokespecial 3, 3) := by decide +kernel
theorem dX3_init_4 : decode cX3_init 4 = .ok (.aload_n 0, 1) := by decide +kernel
theorem dX3_init_5 : decode cX3_init 5 = .ok (.iconst 0, 1) := by decide +kernel
theorem dX3_init_6 : decode cX3_init 6 = .ok (.putfield 11, 3) := by decide +kernel
theorem dX3_init_9 : decode cX3_init 9 = .ok (.aload_n 0, 1) := by decide +kernel
theorem dX3_init_10 : decode cX3_init 10 = .ok (.iconst 0, 1) := by decide +kernel
theorem dX3_init_11 : decode cX3_init 11 = .ok (.putfield 15, 3) := by decide +kernel
theorem dX3_init_14 : decode cX3_init 14 = .ok (.aload_n 0, 1) := by decide +kernel
theorem dX3_init_15 : decode cX3_init 15 = .ok (.iconst 0, 1) := by decide +kernel
theorem dX3_init_16 : decode cX3_init 16 = .ok (.putfield 18, 3) := by decide +kernel
theorem dX3_init_19 : decode cX3_init 19 = .ok (.aload_n 0, 1) := by decide +kernel
theorem dX3_init_20 : decode cX3_init 20 = .ok (.bipush 43, 2) := by decide +kernel
theorem dX3_init_22 : decode cX3_init 22 = .ok (.putfield 21, 3) := by decide +kernel
theorem dX3_init_25 : decode cX3_init 25 = .ok (.aload_n 0, 1) := by decide +kernel
theorem dX3_init_26 : decode cX3_init 26 = .ok (.iconst 0, 1) := by decide +kernel
theorem dX3_init_27 : decode cX3_init 27 = .ok (.putfield 25, 3) := by decide +kernel
theorem dX3_init_30 : decode cX3_init 30 = .ok (.return_, 1) := by decide +kernel
theorem dX3_begin_0 : decode cX3_begin 0 = .ok (.aload_n 0, 1) := by decide +kernel
theorem dX3_begin_1 : decode cX3_begin 1 = .ok (.iconst 0, 1) := by decide +kernel
theorem dX3_begin_2 : decode cX3_begin 2 = .ok (.putfield 11, 3) := by decide +kernel
theorem dX3_begin_5 : decode cX3_begin 5 = .ok (.return_, 1) := by decide +kernel
theorem dX3_hasWholeOrder_0 : decode cX3_hasWholeOrder 0 = .ok (.aload_n 0, 1) := by decide +kernel
theorem dX3_hasWholeOrder_1 : decode cX3_hasWholeOrder 1 = .ok (.getfield 11, 3) := by decide +kernel
theorem dX3_hasWholeOrder_4 : decode cX3_hasWholeOrder 4 = .ok (.iconst 3, 1) := by decide +kernel
theorem dX3_hasWholeOrder_5 : decode cX3_hasWholeOrder 5 = .ok (.if_icmp .ne 7, 3) := by decide +kernel
theorem dX3_hasWholeOrder_8 : decode cX3_hasWholeOrder 8 = .ok (.iconst 1, 1) := by decide +kernel
theorem dX3_hasWholeOrder_9 : decode cX3_hasWholeOrder 9 = .ok (.goto 4, 3) := by decide +kernel
theorem dX3_hasWholeOrder_12 : decode cX3_hasWholeOrder 12 = .ok (.iconst 0, 1) := by decide +kernel
theorem dX3_hasWholeOrder_13 : decode cX3_hasWholeOrder 13 = .ok (.ireturn, 1) := by decide +kernel
theorem dX3_takes_0 : decode cX3_takes 0 = .ok (.aload_n 0, 1) := by decide +kernel
theorem dX3_takes_1 : decode cX3_takes 1 = .ok (.getfield 11, 3) := by decide +kernel
theorem dX3_takes_4 : decode cX3_takes 4 = .ok (.tableswitch 52 0 2 #[28, 37, 43], 28) := by decide +kernel
theorem dX3_takes_32 : decode cX3_takes 32 = .ok (.aload_n 0, 1) := by decide +kernel
theorem dX3_takes_33 : decode cX3_takes 33 = .ok (.iload_n 1, 1) := by decide +kernel
theorem dX3_takes_34 : decode cX3_takes 34 = .ok (.bipush 48, 2) := by decide +kernel
theorem dX3_takes_36 : decode cX3_takes 36 = .ok (.isub, 1) := by decide +kernel
theorem dX3_takes_37 : decode cX3_takes 37 = .ok (.invokevirtual 28, 3) := by decide +kernel
theorem dX3_takes_40 : decode cX3_takes 40 = .ok (.ireturn, 1) := by decide +kernel
theorem dX3_takes_41 : decode cX3_takes 41 = .ok (.aload_n 0, 1) := by decide +kernel
theorem dX3_takes_42 : decode cX3_takes 42 = .ok (.iload_n 1, 1) := by decide +kernel
theorem dX3_takes_43 : decode cX3_takes 43 = .ok (.invokevirtual 32, 3) := by decide +kernel
theorem dX3_takes_46 : decode cX3_takes 46 = .ok (.ireturn, 1) := by decide +kernel
theorem dX3_takes_47 : decode cX3_takes 47 = .ok (.aload_n 0, 1) := by decide +kernel
theorem dX3_takes_48 : decode cX3_takes 48 = .ok (.iload_n 1, 1) := by decide +kernel
theorem dX3_takes_49 : decode cX3_takes 49 = .ok (.bipush 48, 2) := by decide +kernel
theorem dX3_takes_51 : decode cX3_takes 51 = .ok (.isub, 1) := by decide +kernel
theorem dX3_takes_52 : decode cX3_takes 52 = .ok (.invokevirtual 36, 3) := by decide +kernel
theorem dX3_takes_55 : decode cX3_takes 55 = .ok (.ireturn, 1) := by decide +kernel
theorem dX3_takes_56 : decode cX3_takes 56 = .ok (.iload_n 1, 1) := by decide +kernel
theorem dX3_takes_57 : decode cX3_takes 57 = .ok (.bipush 59, 2) := by decide +kernel
theorem dX3_takes_59 : decode cX3_takes 59 = .ok (.if_icmp .ne 10, 3) := by decide +kernel
theorem dX3_takes_62 : decode cX3_takes 62 = .ok (.aload_n 0, 1) := by decide +kernel
theorem dX3_takes_63 : decode cX3_takes 63 = .ok (.invokevirtual 39, 3) := by decide +kernel
theorem dX3_takes_66 : decode cX3_takes 66 = .ok (.goto 11, 3) := by decide +kernel
theorem dX3_takes_69 : decode cX3_takes 69 = .ok (.aload_n 0, 1) := by decide +kernel
theorem dX3_takes_70 : decode cX3_takes 70 = .ok (.iload_n 1, 1) := by decide +kernel
theorem dX3_takes_71 : decode cX3_takes 71 = .ok (.bipush 48, 2) := by decide +kernel
theorem dX3_takes_73 : decode cX3_takes 73 = .ok (.isub, 1) := by decide +kernel
theorem dX3_takes_74 : decode cX3_takes 74 = .ok (.invokevirtual 43, 3) := by decide +kernel
theorem dX3_takes_77 : decode cX3_takes 77 = .ok (.ireturn, 1) := by decide +kernel
theorem dX3_takesCord_0 : decode cX3_takesCord 0 = .ok (.iload_n 1, 1) := by decide +kernel
theorem dX3_takesCord_1 : decode cX3_takesCord 1 = .ok (.ifCond .lt 9, 3) := by decide +kernel
theorem dX3_takesCord_4 : decode cX3_takesCord 4 = .ok (.iload_n 1, 1) := by decide +kernel
theorem dX3_takesCord_5 : decode cX3_takesCord 5 = .ok (.bipush 7, 2) := by decide +kernel
theorem dX3_takesCord_7 : decode cX3_takesCord 7 = .ok (.if_icmp .lt 5, 3) := by decide +kernel
theorem dX3_takesCord_10 : decode cX3_takesCord 10 = .ok (.iconst 0, 1) := by decide +kernel
theorem dX3_takesCord_11 : decode cX3_takesCord 11 = .ok (.ireturn, 1) := by decide +kernel
theorem dX3_takesCord_12 : decode cX3_takesCord 12 = .ok (.aload_n 0, 1) := by decide +kernel
theorem dX3_takesCord_13 : decode cX3_takesCord 13 = .ok (.iload_n 1, 1) := by decide +kernel
theorem dX3_takesCord_14 : decode cX3_takesCord 14 = .ok (.putfield 18, 3) := by decide +kernel
theorem dX3_takesCord_17 : decode cX3_takesCord 17 = .ok (.aload_n 0, 1) := by decide +kernel
theorem dX3_takesCord_18 : decode cX3_takesCord 18 = .ok (.iconst 1, 1) := by decide +kernel
theorem dX3_takesCord_19 : decode cX3_takesCord 19 = .ok (.putfield 11, 3) := by decide +kernel
theorem dX3_takesCord_22 : decode cX3_takesCord 22 = .ok (.iconst 1, 1) := by decide +kernel
theorem dX3_takesCord_23 : decode cX3_takesCord 23 = .ok (.ireturn, 1) := by decide +kernel
theorem dX3_takesKind_0 : decode cX3_takesKind 0 = .ok (.iload_n 1, 1) := by decide +kernel
theorem dX3_takesKind_1 : decode cX3_takesKind 1 = .ok (.bipush 43, 2) := by decide +kernel
theorem dX3_takesKind_3 : decode cX3_takesKind 3 = .ok (.if_icmp .eq 17, 3) := by decide +kernel
theorem dX3_takesKind_6 : decode cX3_takesKind 6 = .ok (.iload_n 1, 1) := by decide +kernel
theorem dX3_takesKind_7 : decode cX3_takesKind 7 = .ok (.bipush 62, 2) := by decide +kernel
theorem dX3_takesKind_9 : decode cX3_takesKind 9 = .ok (.if_icmp .eq 11, 3) := by decide +kernel
theorem dX3_takesKind_12 : decode cX3_takesKind 12 = .ok (.iload_n 1, 1) := by decide +kernel
theorem dX3_takesKind_13 : decode cX3_takesKind 13 = .ok (.bipush 126, 2) := by decide +kernel
theorem dX3_takesKind_15 : decode cX3_takesKind 15 = .ok (.if_icmp .eq 5, 3) := by decide +kernel
theorem dX3_takesKind_18 : decode cX3_takesKind 18 = .ok (.iconst 0, 1) := by decide +kernel
theorem dX3_takesKind_19 : decode cX3_takesKind 19 = .ok (.ireturn, 1) := by decide +kernel
theorem dX3_takesKind_20 : decode cX3_takesKind 20 = .ok (.aload_n 0, 1) := by decide +kernel
theorem dX3_takesKind_21 : decode cX3_takesKind 21 = .ok (.iload_n 1, 1) := by decide +kernel
theorem dX3_takesKind_22 : decode cX3_takesKind 22 = .ok (.putfield 21, 3) := by decide +kernel
theorem dX3_takesKind_25 : decode cX3_takesKind 25 = .ok (.aload_n 0, 1) := by decide +kernel
theorem dX3_takesKind_26 : decode cX3_takesKind 26 = .ok (.iconst 2, 1) := by decide +kernel
theorem dX3_takesKind_27 : decode cX3_takesKind 27 = .ok (.putfield 11, 3) := by decide +kernel
theorem dX3_takesKind_30 : decode cX3_takesKind 30 = .ok (.iconst 1, 1) := by decide +kernel
theorem dX3_takesKind_31 : decode cX3_takesKind 31 = .ok (.ireturn, 1) := by decide +kernel
theorem dX3_takesValue_0 : decode cX3_takesValue 0 = .ok (.aload_n 0, 1) := by decide +kernel
theorem dX3_takesValue_1 : decode cX3_takesValue 1 = .ok (.iload_n 1, 1) := by decide +kernel
theorem dX3_takesValue_2 : decode cX3_takesValue 2 = .ok (.invokevirtual 46, 3) := by decide +kernel
theorem dX3_takesValue_5 : decode cX3_takesValue 5 = .ok (.ifCond .ne 5, 3) := by decide +kernel
theorem dX3_takesValue_8 : decode cX3_takesValue 8 = .ok (.iconst 0, 1) := by decide +kernel
theorem dX3_takesValue_9 : decode cX3_takesValue 9 = .ok (.ireturn, 1) := by decide +kernel
theorem dX3_takesValue_10 : decode cX3_takesValue 10 = .ok (.aload_n 0, 1) := by decide +kernel
theorem dX3_takesValue_11 : decode cX3_takesValue 11 = .ok (.iload_n 1, 1) := by decide +kernel
theorem dX3_takesValue_12 : decode cX3_takesValue 12 = .ok (.putfield 25, 3) := by decide +kernel
theorem dX3_takesValue_15 : decode cX3_takesValue 15 = .ok (.aload_n 0, 1) := by decide +kernel
theorem dX3_takesValue_16 : decode cX3_takesValue 16 = .ok (.iconst 1, 1) := by decide +kernel
theorem dX3_takesValue_17 : decode cX3_takesValue 17 = .ok (.putfield 15, 3) := by decide +kernel
theorem dX3_takesValue_20 : decode cX3_takesValue 20 = .ok (.aload_n 0, 1) := by decide +kernel
theorem dX3_takesValue_21 : decode cX3_takesValue 21 = .ok (.iconst 3, 1) := by decide +kernel
theorem dX3_takesValue_22 : decode cX3_takesValue 22 = .ok (.putfield 11, 3) := by decide +kernel
theorem dX3_takesValue_25 : decode cX3_takesValue 25 = .ok (.iconst 1, 1) := by decide +kernel
theorem dX3_takesValue_26 : decode cX3_takesValue 26 = .ok (.ireturn, 1) := by decide +kernel
theorem dX3_mayBeginValue_0 : decode cX3_mayBeginValue 0 = .ok (.aload_n 0, 1) := by decide +kernel
theorem dX3_mayBeginValue_1 : decode cX3_mayBeginValue 1 = .ok (.getfield 21, 3) := by decide +kernel
theorem dX3_mayBeginValue_4 : decode cX3_mayBeginValue 4 = .ok (.bipush 43, 2) := by decide +kernel
theorem dX3_mayBeginValue_6 : decode cX3_mayBeginValue 6 = .ok (.if_icmp .ne 20, 3) := by decide +kernel
theorem dX3_mayBeginValue_9 : decode cX3_mayBeginValue 9 = .ok (.iload_n 1, 1) := by decide +kernel
theorem dX3_mayBeginValue_10 : decode cX3_mayBeginValue 10 = .ok (.iconst 1, 1) := by decide +kernel
theorem dX3_mayBeginValue_11 : decode cX3_mayBeginValue 11 = .ok (.if_icmp .lt 13, 3) := by decide +kernel
theorem dX3_mayBeginValue_14 : decode cX3_mayBeginValue 14 = .ok (.iload_n 1, 1) := by decide +kernel
theorem dX3_mayBeginValue_15 : decode cX3_mayBeginValue 15 = .ok (.bipush 9, 2) := by decide +kernel
theorem dX3_mayBeginValue_17 : decode cX3_mayBeginValue 17 = .ok (.if_icmp .gt 7, 3) := by decide +kernel
theorem dX3_mayBeginValue_20 : decode cX3_mayBeginValue 20 = .ok (.iconst 1, 1) := by decide +kernel
theorem dX3_mayBeginValue_21 : decode cX3_mayBeginValue 21 = .ok (.goto 4, 3) := by decide +kernel
theorem dX3_mayBeginValue_24 : decode cX3_mayBeginValue 24 = .ok (.iconst 0, 1) := by decide +kernel
theorem dX3_mayBeginValue_25 : decode cX3_mayBeginValue 25 = .ok (.ireturn, 1) := by decide +kernel
theorem dX3_mayBeginValue_26 : decode cX3_mayBeginValue 26 = .ok (.aload_n 0, 1) := by decide +kernel
theorem dX3_mayBeginValue_27 : decode cX3_mayBeginValue 27 = .ok (.getfield 21, 3) := by decide +kernel
theorem dX3_mayBeginValue_30 : decode cX3_mayBeginValue 30 = .ok (.bipush 62, 2) := by decide +kernel
theorem dX3_mayBeginValue_32 : decode cX3_mayBeginValue 32 = .ok (.if_icmp .ne 27, 3) := by decide +kernel
theorem dX3_mayBeginValue_35 : decode cX3_mayBeginValue 35 = .ok (.iload_n 1, 1) := by decide +kernel
theorem dX3_mayBeginValue_36 : decode cX3_mayBeginValue 36 = .ok (.ifCond .lt 21, 3) := by decide +kernel
theorem dX3_mayBeginValue_39 : decode cX3_mayBeginValue 39 = .ok (.iload_n 1, 1) := by decide +kernel
theorem dX3_mayBeginValue_40 : decode cX3_mayBeginValue 40 = .ok (.bipush 7, 2) := by decide +kernel
theorem dX3_mayBeginValue_42 : decode cX3_mayBeginValue 42 = .ok (.if_icmp .ge 15, 3) := by decide +kernel
theorem dX3_mayBeginValue_45 : decode cX3_mayBeginValue 45 = .ok (.iload_n 1, 1) := by decide +kernel
theorem dX3_mayBeginValue_46 : decode cX3_mayBeginValue 46 = .ok (.aload_n 0, 1) := by decide +kernel
theorem dX3_mayBeginValue_47 : decode cX3_mayBeginValue 47 = .ok (.getfield 18, 3) := by decide +kernel
theorem dX3_mayBeginValue_50 : decode cX3_mayBeginValue 50 = .ok (.if_icmp .eq 7, 3) := by decide +kernel
theorem dX3_mayBeginValue_53 : decode cX3_mayBeginValue 53 = .ok (.iconst 1, 1) := by decide +kernel
theorem dX3_mayBeginValue_54 : decode cX3_mayBeginValue 54 = .ok (.goto 4, 3) := by decide +kernel
theorem dX3_mayBeginValue_57 : decode cX3_mayBeginValue 57 = .ok (.iconst 0, 1) := by decide +kernel
theorem dX3_mayBeginValue_58 : decode cX3_mayBeginValue 58 = .ok (.ireturn, 1) := by decide +kernel
theorem dX3_mayBeginValue_59 : decode cX3_mayBeginValue 59 = .ok (.iload_n 1, 1) := by decide +kernel
theorem dX3_mayBeginValue_60 : decode cX3_mayBeginValue 60 = .ok (.ifCond .lt 13, 3) := by decide +kernel
theorem dX3_mayBeginValue_63 : decode cX3_mayBeginValue 63 = .ok (.iload_n 1, 1) := by decide +kernel
theorem dX3_mayBeginValue_64 : decode cX3_mayBeginValue 64 = .ok (.bipush 6, 2) := by decide +kernel
theorem dX3_mayBeginValue_66 : decode cX3_mayBeginValue 66 = .ok (.if_icmp .ge 7, 3) := by decide +kernel
theorem dX3_mayBeginValue_69 : decode cX3_mayBeginValue 69 = .ok (.iconst 1, 1) := by decide +kernel
theorem dX3_mayBeginValue_70 : decode cX3_mayBeginValue 70 = .ok (.goto 4, 3) := by decide +kernel
theorem dX3_mayBeginValue_73 : decode cX3_mayBeginValue 73 = .ok (.iconst 0, 1) := by decide +kernel
theorem dX3_mayBeginValue_74 : decode cX3_mayBeginValue 74 = .ok (.ireturn, 1) := by decide +kernel
theorem dX3_takesBetween_0 : decode cX3_takesBetween 0 = .ok (.aload_n 0, 1) := by decide +kernel
theorem dX3_takesBetween_1 : decode cX3_takesBetween 1 = .ok (.iconst 0, 1) := by decide +kernel
theorem dX3_takesBetween_2 : decode cX3_takesBetween 2 = .ok (.putfield 11, 3) := by decide +kernel
theorem dX3_takesBetween_5 : decode cX3_takesBetween 5 = .ok (.iconst 1, 1) := by decide +kernel
theorem dX3_takesBetween_6 : decode cX3_takesBetween 6 = .ok (.ireturn, 1) := by decide +kernel
theorem dX3_takesDigit_0 : decode cX3_takesDigit 0 = .ok (.aload_n 0, 1) := by decide +kernel
theorem dX3_takesDigit_1 : decode cX3_takesDigit 1 = .ok (.getfield 21, 3) := by decide +kernel
theorem dX3_takesDigit_4 : decode cX3_takesDigit 4 = .ok (.bipush 43, 2) := by decide +kernel
theorem dX3_takesDigit_6 : decode cX3_takesDigit 6 = .ok (.if_icmp .ne 22, 3) := by decide +kernel
theorem dX3_takesDigit_9 : decode cX3_takesDigit 9 = .ok (.aload_n 0, 1) := by decide +kernel
theorem dX3_takesDigit_10 : decode cX3_takesDigit 10 = .ok (.getfield 15, 3) := by decide +kernel
theorem dX3_takesDigit_13 : decode cX3_takesDigit 13 = .ok (.bipush 6, 2) := by decide +kernel
theorem dX3_takesDigit_15 : decode cX3_takesDigit 15 = .ok (.if_icmp .ge 13, 3) := by decide +kernel
theorem dX3_takesDigit_18 : decode cX3_takesDigit 18 = .ok (.iload_n 1, 1) := by decide +kernel
theorem dX3_takesDigit_19 : decode cX3_takesDigit 19 = .ok (.ifCond .lt 9, 3) := by decide +kernel
theorem dX3_takesDigit_22 : decode cX3_takesDigit 22 = .ok (.iload_n 1, 1) := by decide +kernel
theorem dX3_takesDigit_23 : decode cX3_takesDigit 23 = .ok (.bipush 9, 2) := by decide +kernel
theorem dX3_takesDigit_25 : decode cX3_takesDigit 25 = .ok (.if_icmp .le 5, 3) := by decide +kernel
theorem dX3_takesDigit_28 : decode cX3_takesDigit 28 = .ok (.iconst 0, 1) := by decide +kernel
theorem dX3_takesDigit_29 : decode cX3_takesDigit 29 = .ok (.ireturn, 1) := by decide +kernel
theorem dX3_takesDigit_30 : decode cX3_takesDigit 30 = .ok (.aload_n 0, 1) := by decide +kernel
theorem dX3_takesDigit_31 : decode cX3_takesDigit 31 = .ok (.bipush 10, 2) := by decide +kernel
theorem dX3_takesDigit_33 : decode cX3_takesDigit 33 = .ok (.aload_n 0, 1) := by decide +kernel
theorem dX3_takesDigit_34 : decode cX3_takesDigit 34 = .ok (.getfield 25, 3) := by decide +kernel
theorem dX3_takesDigit_37 : decode cX3_takesDigit 37 = .ok (.imul, 1) := by decide +kernel
theorem dX3_takesDigit_38 : decode cX3_takesDigit 38 = .ok (.iload_n 1, 1) := by decide +kernel
theorem dX3_takesDigit_39 : decode cX3_takesDigit 39 = .ok (.iadd, 1) := by decide +kernel
theorem dX3_takesDigit_40 : decode cX3_takesDigit 40 = .ok (.putfield 25, 3) := by decide +kernel
theorem dX3_takesDigit_43 : decode cX3_takesDigit 43 = .ok (.aload_n 0, 1) := by decide +kernel
theorem dX3_takesDigit_44 : decode cX3_takesDigit 44 = .ok (.dup, 1) := by decide +kernel
theorem dX3_takesDigit_45 : decode cX3_takesDigit 45 = .ok (.getfield 15, 3) := by decide +kernel
theorem dX3_takesDigit_48 : decode cX3_takesDigit 48 = .ok (.iconst 1, 1) := by decide +kernel
theorem dX3_takesDigit_49 : decode cX3_takesDigit 49 = .ok (.iadd, 1) := by decide +kernel
theorem dX3_takesDigit_50 : decode cX3_takesDigit 50 = .ok (.putfield 15, 3) := by decide +kernel
theorem dX3_takesDigit_53 : decode cX3_takesDigit 53 = .ok (.iconst 1, 1) := by decide +kernel
theorem dX3_takesDigit_54 : decode cX3_takesDigit 54 = .ok (.ireturn, 1) := by decide +kernel
theorem dX4_init_0 : decode cX4_init 0 = .ok (.aload_n 0, 1) := by decide +kernel
theorem dX4_init_1 : decode cX4_init 1 = .ok (.invokespecial 1, 3) := by decide +kernel
theorem dX4_init_4 : decode cX4_init 4 = .ok (.aload_n 0, 1) := by decide +kernel
theorem dX4_init_5 : decode cX4_init 5 = .ok (.new 7, 3) := by decide +kernel
theorem dX4_init_8 : decode cX4_init 8 = .ok (.dup, 1) := by decide +kernel
theorem dX4_init_9 : decode cX4_init 9 = .ok (.invokespecial 9, 3) := by decide +kernel
theorem dX4_init_12 : decode cX4_init 12 = .ok (.putfield 10, 3) := by decide +kernel
theorem dX4_init_15 : decode cX4_init 15 = .ok (.aload_n 0, 1) := by decide +kernel
theorem dX4_init_16 : decode cX4_init 16 = .ok (.new 16, 3) := by decide +kernel
theorem dX4_init_19 : decode cX4_init 19 = .ok (.dup, 1) := by decide +kernel
theorem dX4_init_20 : decode cX4_init 20 = .ok (.invokespecial 18, 3) := by decide +kernel
theorem dX4_init_23 : decode cX4_init 23 = .ok (.putfield 19, 3) := by decide +kernel
theorem dX4_init_26 : decode cX4_init 26 = .ok (.aload_n 0, 1) := by decide +kernel
theorem dX4_init_27 : decode cX4_init 27 = .ok (.iconst 2, 1) := by decide +kernel
theorem dX4_init_28 : decode cX4_init 28 = .ok (.anewarray 7, 3) := by decide +kernel
theorem dX4_init_31 : decode cX4_init 31 = .ok (.putfield 23, 3) := by decide +kernel
theorem dX4_init_34 : decode cX4_init 34 = .ok (.aload_n 0, 1) := by decide +kernel
theorem dX4_init_35 : decode cX4_init 35 = .ok (.bipush 60, 2) := by decide +kernel
theorem dX4_init_37 : decode cX4_init 37 = .ok (.newarray .char, 2) := by decide +kernel
theorem dX4_init_39 : decode cX4_init 39 = .ok (.putfield 27, 3) := by decide +kernel
theorem dX4_init_42 : decode cX4_init 42 = .ok (.aload_n 0, 1) := by decide +kernel
theorem dX4_init_43 : decode cX4_init 43 = .ok (.iconst 0, 1) := by decide +kernel
theorem dX4_init_44 : decode cX4_init 44 = .ok (.putfield 31, 3) := by decide +kernel
theorem dX4_init_47 : decode cX4_init 47 = .ok (.aload_n 0, 1) := by decide +kernel
theorem dX4_init_48 : decode cX4_init 48 = .ok (.new 35, 3) := by decide +kernel
theorem dX4_init_51 : decode cX4_init 51 = .ok (.dup, 1) := by decide +kernel
theorem dX4_init_52 : decode cX4_init 52 = .ok (.invokespecial 37, 3) := by decide +kernel
theorem dX4_init_55 : decode cX4_init 55 = .ok (.putfield 38, 3) := by decide +kernel
theorem dX4_init_58 : decode cX4_init 58 = .ok (.aload_n 0, 1) := by decide +kernel
theorem dX4_init_59 : decode cX4_init 59 = .ok (.new 42, 3) := by decide +kernel
theorem dX4_init_62 : decode cX4_init 62 = .ok (.dup, 1) := by decide +kernel
theorem dX4_init_63 : decode cX4_init 63 = .ok (.invokespecial 44, 3) := by decide +kernel
theorem dX4_init_66 : decode cX4_init 66 = .ok (.putfield 45, 3) := by decide +kernel
theorem dX4_init_69 : decode cX4_init 69 = .ok (.aload_n 0, 1) := by decide +kernel
theorem dX4_init_70 : decode cX4_init 70 = .ok (.bipush 7, 2) := by decide +kernel
theorem dX4_init_72 : decode cX4_init 72 = .ok (.newarray .int, 2) := by decide +kernel
theorem dX4_init_74 : decode cX4_init 74 = .ok (.putfield 49, 3) := by decide +kernel
theorem dX4_init_77 : decode cX4_init 77 = .ok (.return_, 1) := by decide +kernel
theorem dX4_tie_0 : decode cX4_tie 0 = .ok (.aload_n 0, 1) := by decide +kernel
theorem dX4_tie_1 : decode cX4_tie 1 = .ok (.iload_n 1, 1) := by decide +kernel
theorem dX4_tie_2 : decode cX4_tie 2 = .ok (.invokevirtual 53, 3) := by decide +kernel
theorem dX4_tie_5 : decode cX4_tie 5 = .ok (.astore_n 3, 1) := by decide +kernel
theorem dX4_tie_6 : decode cX4_tie 6 = .ok (.iload_n 2, 1) := by decide +kernel
theorem dX4_tie_7 : decode cX4_tie 7 = .ok (.invokestatic 57, 3) := by decide +kernel
theorem dX4_tie_10 : decode cX4_tie 10 = .ok (.aload_n 0, 1) := by decide +kernel
theorem dX4_tie_11 : decode cX4_tie 11 = .ok (.getfield 19, 3) := by decide +kernel
theorem dX4_tie_14 : decode cX4_tie 14 = .ok (.aload_n 0, 1) := by decide +kernel
theorem dX4_tie_15 : decode cX4_tie 15 = .ok (.getfield 10, 3) := by decide +kernel
theorem dX4_tie_18 : decode cX4_tie 18 = .ok (.invokevirtual 61, 3) := by decide +kernel
theorem dX4_tie_21 : decode cX4_tie 21 = .ok (.aload_n 0, 1) := by decide +kernel
theorem dX4_tie_22 : decode cX4_tie 22 = .ok (.getfield 10, 3) := by decide +kernel
theorem dX4_tie_25 : decode cX4_tie 25 = .ok (.aload_n 3, 1) := by decide +kernel
theorem dX4_tie_26 : decode cX4_tie 26 = .ok (.iload_n 2, 1) := by decide +kernel
theorem dX4_tie_27 : decode cX4_tie 27 = .ok (.invokevirtual 65, 3) := by decide +kernel
theorem dX4_tie_30 : decode cX4_tie 30 = .ok (.ireturn, 1) := by decide +kernel
theorem dX4_add_0 : decode cX4_add 0 = .ok (.aload_n 0, 1) := by decide +kernel
theorem dX4_add_1 : decode cX4_add 1 = .ok (.iload_n 1, 1) := by decide +kernel
theorem dX4_add_2 : decode cX4_add 2 = .ok (.invokevirtual 53, 3) := by decide +kernel
theorem dX4_add_5 : decode cX4_add 5 = .ok (.astore_n 3, 1) := by decide +kernel
theorem dX4_add_6 : decode cX4_add 6 = .ok (.aload_n 0, 1) := by decide +kernel
theorem dX4_add_7 : decode cX4_add 7 = .ok (.iload_n 2, 1) := by decide +kernel
theorem dX4_add_8 : decode cX4_add 8 = .ok (.invokevirtual 53, 3) := by decide +kernel
theorem dX4_add_11 : decode cX4_add 11 = .ok (.astore 4, 2) := by decide +kernel
theorem dX4_add_13 : decode cX4_add 13 = .ok (.iload_n 1, 1) := by decide +kernel
theorem dX4_add_14 : decode cX4_add 14 = .ok (.iload_n 2, 1) := by decide +kernel
theorem dX4_add_15 : decode cX4_add 15 = .ok (.if_icmp .ne 13, 3) := by decide +kernel
theorem dX4_add_18 : decode cX4_add 18 = .ok (.new 69, 3) := by decide +kernel
theorem dX4_add_21 : decode cX4_add 21 = .ok (.dup, 1) := by decide +kernel
theorem dX4_add_22 : decode cX4_add 22 = .ok (.ldc 71, 2) := by decide +kernel
theorem dX4_add_24 : decode cX4_add 24 = .ok (.invokespecial 73, 3) := by decide +kernel
theorem dX4_add_27 : decode cX4_add 27 = .ok (.athrow, 1) := by decide +kernel
theorem dX4_add_28 : decode cX4_add 28 = .ok (.aload_n 0, 1) := by decide +kernel
theorem dX4_add_29 : decode cX4_add 29 = .ok (.getfield 19, 3) := by decide +kernel
theorem dX4_add_32 : decode cX4_add 32 = .ok (.aload_n 0, 1) := by decide +kernel
theorem dX4_add_33 : decode cX4_add 33 = .ok (.getfield 10, 3) := by decide +kernel
theorem dX4_add_36 : decode cX4_add 36 = .ok (.invokevirtual 61, 3) := by decide +kernel
theorem dX4_add_39 : decode cX4_add 39 = .ok (.aload_n 0, 1) := by decide +kernel
theorem dX4_add_40 : decode cX4_add 40 = .ok (.getfield 10, 3) := by decide +kernel
theorem dX4_add_43 : decode cX4_add 43 = .ok (.aload_n 3, 1) := by decide +kernel
theorem dX4_add_44 : decode cX4_add 44 = .ok (.aload 4, 2) := by decide +kernel
theorem dX4_add_46 : decode cX4_add 46 = .ok (.invokevirtual 76, 3) := by decide +kernel
theorem dX4_add_49 : decode cX4_add 49 = .ok (.ireturn, 1) := by decide +kernel
theorem dX4_slip_0 : decode cX4_slip 0 = .ok (.aload_n 0, 1) := by decide +kernel
theorem dX4_slip_1 : decode cX4_slip 1 = .ok (.iload_n 1, 1) := by decide +kernel
theorem dX4_slip_2 : decode cX4_slip 2 = .ok (.invokevirtual 53, 3) := by decide +kernel
theorem dX4_slip_5 : decode cX4_slip 5 = .ok (.astore_n 3, 1) := by decide +kernel
theorem dX4_slip_6 : decode cX4_slip 6 = .ok (.iload_n 2, 1) := by decide +kernel
theorem dX4_slip_7 : decode cX4_slip 7 = .ok (.invokestatic 80, 3) := by decide +kernel
theorem dX4_slip_10 : decode cX4_slip 10 = .ok (.aload_n 0, 1) := by decide +kernel
theorem dX4_slip_11 : decode cX4_slip 11 = .ok (.getfield 19, 3) := by decide +kernel
theorem dX4_slip_14 : decode cX4_slip 14 = .ok (.aload_n 0, 1) := by decide +kernel
theorem dX4_slip_15 : decode cX4_slip 15 = .ok (.getfield 10, 3) := by decide +kernel
theorem dX4_slip_18 : decode cX4_slip 18 = .ok (.invokevirtual 61, 3) := by decide +kernel
theorem dX4_slip_21 : decode cX4_slip 21 = .ok (.aload_n 0, 1) := by decide +kernel
theorem dX4_slip_22 : decode cX4_slip 22 = .ok (.getfield 10, 3) := by decide +kernel
theorem dX4_slip_25 : decode cX4_slip 25 = .ok (.aload_n 3, 1) := by decide +kernel
theorem dX4_slip_26 : decode cX4_slip 26 = .ok (.iload_n 2, 1) := by decide +kernel
theorem dX4_slip_27 : decode cX4_slip 27 = .ok (.invokevirtual 83, 3) := by decide +kernel
theorem dX4_slip_30 : decode cX4_slip 30 = .ok (.ireturn, 1) := by decide +kernel
theorem dX4_mend_0 : decode cX4_mend 0 = .ok (.aload_n 0, 1) := by decide +kernel
theorem dX4_mend_1 : decode cX4_mend 1 = .ok (.iload_n 1, 1) := by decide +kernel
theorem dX4_mend_2 : decode cX4_mend 2 = .ok (.invokevirtual 53, 3) := by decide +kernel
theorem dX4_mend_5 : decode cX4_mend 5 = .ok (.astore_n 2, 1) := by decide +kernel
theorem dX4_mend_6 : decode cX4_mend 6 = .ok (.aload_n 0, 1) := by decide +kernel
theorem dX4_mend_7 : decode cX4_mend 7 = .ok (.getfield 19, 3) := by decide +kernel
theorem dX4_mend_10 : decode cX4_mend 10 = .ok (.aload_n 0, 1) := by decide +kernel
theorem dX4_mend_11 : decode cX4_mend 11 = .ok (.getfield 10, 3) := by decide +kernel
theorem dX4_mend_14 : decode cX4_mend 14 = .ok (.invokevirtual 61, 3) := by decide +kernel
theorem dX4_mend_17 : decode cX4_mend 17 = .ok (.aload_n 0, 1) := by decide +kernel
theorem dX4_mend_18 : decode cX4_mend 18 = .ok (.getfield 10, 3) := by decide +kernel
theorem dX4_mend_21 : decode cX4_mend 21 = .ok (.aload_n 2, 1) := by decide +kernel
theorem dX4_mend_22 : decode cX4_mend 22 = .ok (.invokevirtual 86, 3) := by decide +kernel
theorem dX4_mend_25 : decode cX4_mend 25 = .ok (.ireturn, 1) := by decide +kernel
theorem dX4_renew_0 : decode cX4_renew 0 = .ok (.aload_n 0, 1) := by decide +kernel
theorem dX4_renew_1 : decode cX4_renew 1 = .ok (.iload_n 1, 1) := by decide +kernel
theorem dX4_renew_2 : decode cX4_renew 2 = .ok (.invokevirtual 53, 3) := by decide +kernel
theorem dX4_renew_5 : decode cX4_renew 5 = .ok (.astore_n 2, 1) := by decide +kernel
theorem dX4_renew_6 : decode cX4_renew 6 = .ok (.aload_n 0, 1) := by decide +kernel
theorem dX4_renew_7 : decode cX4_renew 7 = .ok (.getfield 19, 3) := by decide +kernel
theorem dX4_renew_10 : decode cX4_renew 10 = .ok (.aload_n 0, 1) := by decide +kernel
theorem dX4_renew_11 : decode cX4_renew 11 = .ok (.getfield 10, 3) := by decide +kernel
theorem dX4_renew_14 : decode cX4_renew 14 = .ok (.invokevirtual 61, 3) := by decide +kernel
theorem dX4_renew_17 : decode cX4_renew 17 = .ok (.aload_n 0, 1) := by decide +kernel
theorem dX4_renew_18 : decode cX4_renew 18 = .ok (.getfield 10, 3) := by decide +kernel
theorem dX4_renew_21 : decode cX4_renew 21 = .ok (.aload_n 2, 1) := by decide +kernel
theorem dX4_renew_22 : decode cX4_renew 22 = .ok (.invokevirtual 90, 3) := by decide +kernel
theorem dX4_renew_25 : decode cX4_renew 25 = .ok (.ireturn, 1) := by decide +kernel
theorem dX4_dye_0 : decode cX4_dye 0 = .ok (.aload_n 0, 1) := by decide +kernel
theorem dX4_dye_1 : decode cX4_dye 1 = .ok (.iload_n 1, 1) := by decide +kernel
theorem dX4_dye_2 : decode cX4_dye 2 = .ok (.invokevirtual 53, 3) := by decide +kernel
theorem dX4_dye_5 : decode cX4_dye 5 = .ok (.astore_n 3, 1) := by decide +kernel
theorem dX4_dye_6 : decode cX4_dye 6 = .ok (.iload_n 2, 1) := by decide +kernel
theorem dX4_dye_7 : decode cX4_dye 7 = .ok (.invokestatic 93, 3) := by decide +kernel
theorem dX4_dye_10 : decode cX4_dye 10 = .ok (.aload_n 0, 1) := by decide +kernel
theorem dX4_dye_11 : decode cX4_dye 11 = .ok (.getfield 19, 3) := by decide +kernel
theorem dX4_dye_14 : decode cX4_dye 14 = .ok (.aload_n 0, 1) := by decide +kernel
theorem dX4_dye_15 : decode cX4_dye 15 = .ok (.getfield 10, 3) := by decide +kernel
theorem dX4_dye_18 : decode cX4_dye 18 = .ok (.invokevirtual 61, 3) := by decide +kernel
theorem dX4_dye_21 : decode cX4_dye 21 = .ok (.aload_n 3, 1) := by decide +kernel
theorem dX4_dye_22 : decode cX4_dye 22 = .ok (.getfield 96, 3) := by decide +kernel
theorem dX4_dye_25 : decode cX4_dye 25 = .ok (.istore 4, 2) := by decide +kernel
theorem dX4_dye_27 : decode cX4_dye 27 = .ok (.aload_n 3, 1) := by decide +kernel
theorem dX4_dye_28 : decode cX4_dye 28 = .ok (.iload_n 2, 1) := by decide +kernel
theorem dX4_dye_29 : decode cX4_dye 29 = .ok (.putfield 96, 3) := by decide +kernel
theorem dX4_dye_32 : decode cX4_dye 32 = .ok (.iload 4, 2) := by decide +kernel
theorem dX4_dye_34 : decode cX4_dye 34 = .ok (.ireturn, 1) := by decide +kernel
theorem dX4_set_0 : decode cX4_set 0 = .ok (.iload_n 1, 1) := by decide +kernel
theorem dX4_set_1 : decode cX4_set 1 = .ok (.bipush 20, 2) := by decide +kernel
theorem dX4_set_3 : decode cX4_set 3 = .ok (.if_icmp .lt 9, 3) := by decide +kernel
theorem dX4_set_6 : decode cX4_set 6 = .ok (.iload_n 1, 1) := by decide +kernel
theorem dX4_set_7 : decode cX4_set 7 = .ok (.bipush 99, 2) := by decide +kernel
theorem dX4_set_9 : decode cX4_set 9 = .ok (.if_icmp .le 13, 3) := by decide +kernel
theorem dX4_set_12 : decode cX4_set 12 = .ok (.new 69, 3) := by decide +kernel
theorem dX4_set_15 : decode cX4_set 15 = .ok (.dup, 1) := by decide +kernel
theorem dX4_set_16 : decode cX4_set 16 = .ok (.ldc 99, 2) := by decide +kernel
theorem dX4_set_18 : decode cX4_set 18 = .ok (.invokespecial 73, 3) := by decide +kernel
theorem dX4_set_21 : decode cX4_set 21 = .ok (.athrow, 1) := by decide +kernel
theorem dX4_set_22 : decode cX4_set 22 = .ok (.aload_n 0, 1) := by decide +kernel
theorem dX4_set_23 : decode cX4_set 23 = .ok (.getfield 19, 3) := by decide +kernel
theorem dX4_set_26 : decode cX4_set 26 = .ok (.aload_n 0, 1) := by decide +kernel
theorem dX4_set_27 : decode cX4_set 27 = .ok (.getfield 10, 3) := by decide +kernel
theorem dX4_set_30 : decode cX4_set 30 = .ok (.invokevirtual 61, 3) := by decide +kernel
theorem dX4_set_33 : decode cX4_set 33 = .ok (.aload_n 0, 1) := by decide +kernel
theorem dX4_set_34 : decode cX4_set 34 = .ok (.getfield 10, 3) := by decide +kernel
theorem dX4_set_37 : decode cX4_set 37 = .ok (.getfield 101, 3) := by decide +kernel
theorem dX4_set_40 : decode cX4_set 40 = .ok (.istore_n 2, 1) := by decide +kernel
theorem dX4_set_41 : decode cX4_set 41 = .ok (.aload_n 0, 1) := by decide +kernel
theorem dX4_set_42 : decode cX4_set 42 = .ok (.getfield 10, 3) := by decide +kernel
theorem dX4_set_45 : decode cX4_set 45 = .ok (.iload_n 1, 1) := by decide +kernel
theorem dX4_set_46 : decode cX4_set 46 = .ok (.putfield 101, 3) := by decide +kernel
theorem dX4_set_49 : decode cX4_set 49 = .ok (.iload_n 2, 1) := by decide +kernel
theorem dX4_set_50 : decode cX4_set 50 = .ok (.ireturn, 1) := by decide +kernel
theorem dX4_append_0 : decode cX4_append 0 = .ok (.iload_n 1, 1) := by decide +kernel
theorem dX4_append_1 : decode cX4_append 1 = .ok (.bipush 33, 2) := by decide +kernel
theorem dX4_append_3 : decode cX4_append 3 = .ok (.if_icmp .lt 9, 3) := by decide +kernel
theorem dX4_append_6 : decode cX4_append 6 = .ok (.iload_n 1, 1) := by decide +kernel
theorem dX4_append_7 : decode cX4_append 7 = .ok (.bipush 126, 2) := by decide +kernel
theorem dX4_append_9 : decode cX4_append 9 = .ok (.if_icmp .le 13, 3) := by decide +kernel
theorem dX4_append_12 : decode cX4_append 12 = .ok (.new 69, 3) := by decide +kernel
theorem dX4_append_15 : decode cX4_append 15 = .ok (.dup, 1) := by decide +kernel
theorem dX4_append_16 : decode cX4_append 16 = .ok (.ldc 104, 2) := by decide +kernel
theorem dX4_append_18 : decode cX4_append 18 = .ok (.invokespecial 73, 3) := by decide +kernel
theorem dX4_append_21 : decode cX4_append 21 = .ok (.athrow, 1) := by decide +kernel
theorem dX4_append_22 : decode cX4_append 22 = .ok (.aload_n 0, 1) := by decide +kernel
theorem dX4_append_23 : decode cX4_append 23 = .ok (.getfield 31, 3) := by decide +kernel
theorem dX4_append_26 : decode cX4_append 26 = .ok (.bipush 60, 2) := by decide +kernel
theorem dX4_append_28 : decode cX4_append 28 = .ok (.if_icmp .lt 13, 3) := by decide +kernel
theorem dX4_append_31 : decode cX4_append 31 = .ok (.new 106, 3) := by decide +kernel
theorem dX4_append_34 : decode cX4_append 34 = .ok (.dup, 1) := by decide +kernel
theorem dX4_append_35 : decode cX4_append 35 = .ok (.ldc 108, 2) := by decide +kernel
theorem dX4_append_37 : decode cX4_append 37 = .ok (.invokespecial 110, 3) := by decide +kernel
theorem dX4_append_40 : decode cX4_append 40 = .ok (.athrow, 1) := by decide +kernel
theorem dX4_append_41 : decode cX4_append 41 = .ok (.aload_n 0, 1) := by decide +kernel
theorem dX4_append_42 : decode cX4_append 42 = .ok (.getfield 27, 3) := by decide +kernel
theorem dX4_append_45 : decode cX4_append 45 = .ok (.aload_n 0, 1) := by decide +kernel
theorem dX4_append_46 : decode cX4_append 46 = .ok (.getfield 31, 3) := by decide +kernel
theorem dX4_append_49 : decode cX4_append 49 = .ok (.iload_n 1, 1) := by decide +kernel
theorem dX4_append_50 : decode cX4_append 50 = .ok (.i2c, 1) := by decide +kernel
theorem dX4_append_51 : decode cX4_append 51 = .ok (.castore, 1) := by decide +kernel
theorem dX4_append_52 : decode cX4_append 52 = .ok (.aload_n 0, 1) := by decide +kernel
theorem dX4_append_53 : decode cX4_append 53 = .ok (.dup, 1) := by decide +kernel
theorem dX4_append_54 : decode cX4_append 54 = .ok (.getfield 31, 3) := by decide +kernel
theorem dX4_append_57 : decode cX4_append 57 = .ok (.iconst 1, 1) := by decide +kernel
theorem dX4_append_58 : decode cX4_append 58 = .ok (.iadd, 1) := by decide +kernel
theorem dX4_append_59 : decode cX4_append 59 = .ok (.putfield 31, 3) := by decide +kernel
theorem dX4_append_62 : decode cX4_append 62 = .ok (.aload_n 0, 1) := by decide +kernel
theorem dX4_append_63 : decode cX4_append 63 = .ok (.getfield 31, 3) := by decide +kernel
theorem dX4_append_66 : decode cX4_append 66 = .ok (.ireturn, 1) := by decide +kernel
theorem dX4_clearBuffer_0 : decode cX4_clearBuffer 0 = .ok (.aload_n 0, 1) := by decide +kernel
theorem dX4_clearBuffer_1 : decode cX4_clearBuffer 1 = .ok (.getfield 31, 3) := by decide +kernel
theorem dX4_clearBuffer_4 : decode cX4_clearBuffer 4 = .ok (.istore_n 1, 1) := by decide +kernel
theorem dX4_clearBuffer_5 : decode cX4_clearBuffer 5 = .ok (.aload_n 0, 1) := by decide +kernel
theorem dX4_clearBuffer_6 : decode cX4_clearBuffer 6 = .ok (.iconst 0, 1) := by decide +kernel
theorem dX4_clearBuffer_7 : decode cX4_clearBuffer 7 = .ok (.putfield 31, 3) := by decide +kernel
theorem dX4_clearBuffer_10 : decode cX4_clearBuffer 10 = .ok (.iload_n 1, 1) := by decide +kernel
theorem dX4_clearBuffer_11 : decode cX4_clearBuffer 11 = .ok (.ireturn, 1) := by decide +kernel
theorem dX4_firstError_0 : decode cX4_firstError 0 = .ok (.aload_n 0, 1) := by decide +kernel
theorem dX4_firstError_1 : decode cX4_firstError 1 = .ok (.invokevirtual 111, 3) := by decide +kernel
theorem dX4_firstError_4 : decode cX4_firstError 4 = .ok (.ireturn, 1) := by decide +kernel
theorem dX4_run_0 : decode cX4_run 0 = .ok (.aload_n 0, 1) := by decide +kernel
theorem dX4_run_1 : decode cX4_run 1 = .ok (.invokevirtual 111, 3) := by decide +kernel
theorem dX4_run_4 : decode cX4_run 4 = .ok (.aload_n 0, 1) := by decide +kernel
theorem dX4_run_5 : decode cX4_run 5 = .ok (.getfield 31, 3) := by decide +kernel
theorem dX4_run_8 : decode cX4_run 8 = .ok (.if_icmp .lt 13, 3) := by decide +kernel
theorem dX4_run_11 : decode cX4_run 11 = .ok (.aload_n 0, 1) := by decide +kernel
theorem dX4_run_12 : decode cX4_run 12 = .ok (.getfield 38, 3) := by decide +kernel
theorem dX4_run_15 : decode cX4_run 15 = .ok (.invokevirtual 115, 3) := by decide +kernel
theorem dX4_run_18 : decode cX4_run 18 = .ok (.ifCond .ne 13, 3) := by decide +kernel
theorem dX4_run_21 : decode cX4_run 21 = .ok (.new 69, 3) := by decide +kernel
theorem dX4_run_24 : decode cX4_run 24 = .ok (.dup, 1) := by decide +kernel
theorem dX4_run_25 : decode cX4_run 25 = .ok (.ldc 119, 2) := by decide +kernel
theorem dX4_run_27 : decode cX4_run 27 = .ok (.invokespecial 73, 3) := by decide +kernel
theorem dX4_run_30 : decode cX4_run 30 = .ok (.athrow, 1) := by decide +kernel
theorem dX4_run_31 : decode cX4_run 31 = .ok (.aload_n 0, 1) := by decide +kernel
theorem dX4_run_32 : decode cX4_run 32 = .ok (.getfield 19, 3) := by decide +kernel
theorem dX4_run_35 : decode cX4_run 35 = .ok (.aload_n 0, 1) := by decide +kernel
theorem dX4_run_36 : decode cX4_run 36 = .ok (.getfield 10, 3) := by decide +kernel
theorem dX4_run_39 : decode cX4_run 39 = .ok (.invokevirtual 61, 3) := by decide +kernel
theorem dX4_run_42 : decode cX4_run 42 = .ok (.aload_n 0, 1) := by decide +kernel
theorem dX4_run_43 : decode cX4_run 43 = .ok (.invokevirtual 121, 3) := by decide +kernel
theorem dX4_run_46 : decode cX4_run 46 = .ok (.istore_n 1, 1) := by decide +kernel
theorem dX4_run_47 : decode cX4_run 47 = .ok (.aload_n 0, 1) := by decide +kernel
theorem dX4_run_48 : decode cX4_run 48 = .ok (.iconst 0, 1) := by decide +kernel
theorem dX4_run_49 : decode cX4_run 49 = .ok (.putfield 31, 3) := by decide +kernel
theorem dX4_run_52 : decode cX4_run 52 = .ok (.iload_n 1, 1) := by decide +kernel
theorem dX4_run_53 : decode cX4_run 53 = .ok (.ireturn, 1) := by decide +kernel
theorem dX4_keep_0 : decode cX4_keep 0 = .ok (.iload_n 1, 1) := by decide +kernel
theorem dX4_keep_1 : decode cX4_keep 1 = .ok (.invokestatic 124, 3) := by decide +kernel
theorem dX4_keep_4 : decode cX4_keep 4 = .ok (.aload_n 0, 1) := by decide +kernel
theorem dX4_keep_5 : decode cX4_keep 5 = .ok (.getfield 23, 3) := by decide +kernel
theorem dX4_keep_8 : decode cX4_keep 8 = .ok (.iload_n 1, 1) := by decide +kernel
theorem dX4_keep_9 : decode cX4_keep 9 = .ok (.aaload, 1) := by decide +kernel
theorem dX4_keep_10 : decode cX4_keep 10 = .ok (.astore_n 2, 1) := by decide +kernel
theorem dX4_keep_11 : decode cX4_keep 11 = .ok (.aload_n 2, 1) := by decide +kernel
theorem dX4_keep_12 : decode cX4_keep 12 = .ok (.ifnonnull 18, 3) := by decide +kernel
theorem dX4_keep_15 : decode cX4_keep 15 = .ok (.new 7, 3) := by decide +kernel
theorem dX4_keep_18 : decode cX4_keep 18 = .ok (.dup, 1) := by decide +kernel
theorem dX4_keep_19 : decode cX4_keep 19 = .ok (.invokespecial 9, 3) := by decide +kernel
theorem dX4_keep_22 : decode cX4_keep 22 = .ok (.astore_n 2, 1) := by decide +kernel
theorem dX4_keep_23 : decode cX4_keep 23 = .ok (.aload_n 0, 1) := by decide +kernel
theorem dX4_keep_24 : decode cX4_keep 24 = .ok (.getfield 23, 3) := by decide +kernel
theorem dX4_keep_27 : decode cX4_keep 27 = .ok (.iload_n 1, 1) := by decide +kernel
theorem dX4_keep_28 : decode cX4_keep 28 = .ok (.aload_n 2, 1) := by decide +kernel
theorem dX4_keep_29 : decode cX4_keep 29 = .ok (.aastore, 1) := by decide +kernel
theorem dX4_keep_30 : decode cX4_keep 30 = .ok (.aload_n 2, 1) := by decide +kernel
theorem dX4_keep_31 : decode cX4_keep 31 = .ok (.aload_n 0, 1) := by decide +kernel
theorem dX4_keep_32 : decode cX4_keep 32 = .ok (.getfield 10, 3) := by decide +kernel
theorem dX4_keep_35 : decode cX4_keep 35 = .ok (.invokevirtual 127, 3) := by decide +kernel
theorem dX4_keep_38 : decode cX4_keep 38 = .ok (.aload_n 0, 1) := by decide +kernel
theorem dX4_keep_39 : decode cX4_keep 39 = .ok (.getfield 10, 3) := by decide +kernel
theorem dX4_keep_42 : decode cX4_keep 42 = .ok (.invokevirtual 130, 3) := by decide +kernel
theorem dX4_keep_45 : decode cX4_keep 45 = .ok (.ireturn, 1) := by decide +kernel
theorem dX4_goBack_0 : decode cX4_goBack 0 = .ok (.iload_n 1, 1) := by decide +kernel
theorem dX4_goBack_1 : decode cX4_goBack 1 = .ok (.invokestatic 124, 3) := by decide +kernel
theorem dX4_goBack_4 : decode cX4_goBack 4 = .ok (.aload_n 0, 1) := by decide +kernel
theorem dX4_goBack_5 : decode cX4_goBack 5 = .ok (.getfield 23, 3) := by decide +kernel
theorem dX4_goBack_8 : decode cX4_goBack 8 = .ok (.iload_n 1, 1) := by decide +kernel
theorem dX4_goBack_9 : decode cX4_goBack 9 = .ok (.aaload, 1) := by decide +kernel
theorem dX4_goBack_10 : decode cX4_goBack 10 = .ok (.astore_n 2, 1) := by decide +kernel
theorem dX4_goBack_11 : decode cX4_goBack 11 = .ok (.aload_n 2, 1) := by decide +kernel
theorem dX4_goBack_12 : decode cX4_goBack 12 = .ok (.ifnonnull 13, 3) := by decide +kernel
theorem dX4_goBack_15 : decode cX4_goBack 15 = .ok (.new 106, 3) := by decide +kernel
theorem dX4_goBack_18 : decode cX4_goBack 18 = .ok (.dup, 1) := by decide +kernel
theorem dX4_goBack_19 : decode cX4_goBack 19 = .ok (.ldc 133, 2) := by decide +kernel
theorem dX4_goBack_21 : decode cX4_goBack 21 = .ok (.invokespecial 110, 3) := by decide +kernel
theorem dX4_goBack_24 : decode cX4_goBack 24 = .ok (.athrow, 1) := by decide +kernel
theorem dX4_goBack_25 : decode cX4_goBack 25 = .ok (.aload_n 0, 1) := by decide +kernel
theorem dX4_goBack_26 : decode cX4_goBack 26 = .ok (.getfield 19, 3) := by decide +kernel
theorem dX4_goBack_29 : decode cX4_goBack 29 = .ok (.aload_n 0, 1) := by decide +kernel
theorem dX4_goBack_30 : decode cX4_goBack 30 = .ok (.getfield 10, 3) := by decide +kernel
theorem dX4_goBack_33 : decode cX4_goBack 33 = .ok (.invokevirtual 61, 3) := by decide +kernel
theorem dX4_goBack_36 : decode cX4_goBack 36 = .ok (.aload_n 0, 1) := by decide +kernel
theorem dX4_goBack_37 : decode cX4_goBack 37 = .ok (.getfield 10, 3) := by decide +kernel
theorem dX4_goBack_40 : decode cX4_goBack 40 = .ok (.aload_n 2, 1) := by decide +kernel
theorem dX4_goBack_41 : decode cX4_goBack 41 = .ok (.invokevirtual 127, 3) := by decide +kernel
theorem dX4_goBack_44 : decode cX4_goBack 44 = .ok (.aload_n 0, 1) := by decide +kernel
theorem dX4_goBack_45 : decode cX4_goBack 45 = .ok (.getfield 10, 3) := by decide +kernel
theorem dX4_goBack_48 : decode cX4_goBack 48 = .ok (.invokevirtual 130, 3) := by decide +kernel
theorem dX4_goBack_51 : decode cX4_goBack 51 = .ok (.ireturn, 1) := by decide +kernel
theorem dX4_undo_0 : decode cX4_undo 0 = .ok (.aload_n 0, 1) := by decide +kernel
theorem dX4_undo_1 : decode cX4_undo 1 = .ok (.getfield 19, 3) := by decide +kernel
theorem dX4_undo_4 : decode cX4_undo 4 = .ok (.getfield 135, 3) := by decide +kernel
theorem dX4_undo_7 : decode cX4_undo 7 = .ok (.ifCond .ne 13, 3) := by decide +kernel
theorem dX4_undo_10 : decode cX4_undo 10 = .ok (.new 106, 3) := by decide +kernel
theorem dX4_undo_13 : decode cX4_undo 13 = .ok (.dup, 1) := by decide +kernel
theorem dX4_undo_14 : decode cX4_undo 14 = .ok (.ldc 138, 2) := by decide +kernel
theorem dX4_undo_16 : decode cX4_undo 16 = .ok (.invokespecial 110, 3) := by decide +kernel
theorem dX4_undo_19 : decode cX4_undo 19 = .ok (.athrow, 1) := by decide +kernel
theorem dX4_undo_20 : decode cX4_undo 20 = .ok (.aload_n 0, 1) := by decide +kernel
theorem dX4_undo_21 : decode cX4_undo 21 = .ok (.getfield 19, 3) := by decide +kernel
theorem dX4_undo_24 : decode cX4_undo 24 = .ok (.aload_n 0, 1) := by decide +kernel
theorem dX4_undo_25 : decode cX4_undo 25 = .ok (.getfield 10, 3) := by decide +kernel
theorem dX4_undo_28 : decode cX4_undo 28 = .ok (.invokevirtual 140, 3) := by decide +kernel
theorem dX4_undo_31 : decode cX4_undo 31 = .ok (.aload_n 0, 1) := by decide +kernel
theorem dX4_undo_32 : decode cX4_undo 32 = .ok (.getfield 19, 3) := by decide +kernel
theorem dX4_undo_35 : decode cX4_undo 35 = .ok (.getfield 135, 3) := by decide +kernel
theorem dX4_undo_38 : decode cX4_undo 38 = .ok (.ireturn, 1) := by decide +kernel
theorem dX4_cordOf_0 : decode cX4_cordOf 0 = .ok (.aload_n 0, 1) := by decide +kernel
theorem dX4_cordOf_1 : decode cX4_cordOf 1 = .ok (.iload_n 1, 1) := by decide +kernel
theorem dX4_cordOf_2 : decode cX4_cordOf 2 = .ok (.invokevirtual 53, 3) := by decide +kernel
theorem dX4_cordOf_5 : decode cX4_cordOf 5 = .ok (.astore_n 3, 1) := by decide +kernel
theorem dX4_cordOf_6 : decode cX4_cordOf 6 = .ok (.iload_n 2, 1) := by decide +kernel
theorem dX4_cordOf_7 : decode cX4_cordOf 7 = .ok (.tableswitch 85 0 7 #[45, 50, 55, 60, 65, 70, 75, 80], 45) := by decide +kernel
theorem dX4_cordOf_52 : decode cX4_cordOf 52 = .ok (.aload_n 3, 1) := by decide +kernel
theorem dX4_cordOf_53 : decode cX4_cordOf 53 = .ok (.invokevirtual 143, 3) := by decide +kernel
theorem dX4_cordOf_56 : decode cX4_cordOf 56 = .ok (.ireturn, 1) := by decide +kernel
theorem dX4_cordOf_57 : decode cX4_cordOf 57 = .ok (.aload_n 3, 1) := by decide +kernel
theorem dX4_cordOf_58 : decode cX4_cordOf 58 = .ok (.invokevirtual 145, 3) := by decide +kernel
theorem dX4_cordOf_61 : decode cX4_cordOf 61 = .ok (.ireturn, 1) := by decide +kernel
theorem dX4_cordOf_62 : decode cX4_cordOf 62 = .ok (.aload_n 3, 1) := by decide +kernel
theorem dX4_cordOf_63 : decode cX4_cordOf 63 = .ok (.getfield 148, 3) := by decide +kernel
theorem dX4_cordOf_66 : decode cX4_cordOf 66 = .ok (.ireturn, 1) := by decide +kernel
theorem dX4_cordOf_67 : decode cX4_cordOf 67 = .ok (.aload_n 3, 1) := by decide +kernel
theorem dX4_cordOf_68 : decode cX4_cordOf 68 = .ok (.invokevirtual 151, 3) := by decide +kernel
theorem dX4_cordOf_71 : decode cX4_cordOf 71 = .ok (.ireturn, 1) := by decide +kernel
theorem dX4_cordOf_72 : decode cX4_cordOf 72 = .ok (.aload_n 3, 1) := by decide +kernel
theorem dX4_cordOf_73 : decode cX4_cordOf 73 = .ok (.invokevirtual 154, 3) := by decide +kernel
theorem dX4_cordOf_76 : decode cX4_cordOf 76 = .ok (.ireturn, 1) := by decide +kernel
theorem dX4_cordOf_77 : decode cX4_cordOf 77 = .ok (.aload_n 3, 1) := by decide +kernel
theorem dX4_cordOf_78 : decode cX4_cordOf 78 = .ok (.invokevirtual 155, 3) := by decide +kernel
theorem dX4_cordOf_81 : decode cX4_cordOf 81 = .ok (.ireturn, 1) := by decide +kernel
theorem dX4_cordOf_82 : decode cX4_cordOf 82 = .ok (.aload_n 3, 1) := by decide +kernel
theorem dX4_cordOf_83 : decode cX4_cordOf 83 = .ok (.getfield 96, 3) := by decide +kernel
theorem dX4_cordOf_86 : decode cX4_cordOf 86 = .ok (.ireturn, 1) := by decide +kernel
theorem dX4_cordOf_87 : decode cX4_cordOf 87 = .ok (.aload_n 3, 1) := by decide +kernel
theorem dX4_cordOf_88 : decode cX4_cordOf 88 = .ok (.getfield 158, 3) := by decide +kernel
theorem dX4_cordOf_91 : decode cX4_cordOf 91 = .ok (.ireturn, 1) := by decide +kernel
theorem dX4_cordOf_92 : decode cX4_cordOf 92 = .ok (.new 69, 3) := by decide +kernel
theorem dX4_cordOf_95 : decode cX4_cordOf 95 = .ok (.dup, 1) := by decide +kernel
theorem dX4_cordOf_96 : decode cX4_cordOf 96 = .ok (.ldc 161, 2) := by decide +kernel
theorem dX4_cordOf_98 : decode cX4_cordOf 98 = .ok (.invokespecial 73, 3) := by decide +kernel
theorem dX4_cordOf_101 : decode cX4_cordOf 101 = .ok (.athrow, 1) := by decide +kernel
theorem dX4_placeOf_0 : decode cX4_placeOf 0 = .ok (.aload_n 0, 1) := by decide +kernel
theorem dX4_placeOf_1 : decode cX4_placeOf 1 = .ok (.iload_n 1, 1) := by decide +kernel
theorem dX4_placeOf_2 : decode cX4_placeOf 2 = .ok (.invokevirtual 53, 3) := by decide +kernel
theorem dX4_placeOf_5 : decode cX4_placeOf 5 = .ok (.astore 4, 2) := by decide +kernel
theorem dX4_placeOf_7 : decode cX4_placeOf 7 = .ok (.iload_n 2, 1) := by decide +kernel
theorem dX4_placeOf_8 : decode cX4_placeOf 8 = .ok (.invokestatic 80, 3) := by decide +kernel
theorem dX4_placeOf_11 : decode cX4_placeOf 11 = .ok (.iload_n 3, 1) := by decide +kernel
theorem dX4_placeOf_12 : decode cX4_placeOf 12 = .ok (.tableswitch 74 0 3 #[32, 40, 48, 55], 32) := by decide +kernel
theorem dX4_placeOf_44 : decode cX4_placeOf 44 = .ok (.aload 4, 2) := by decide +kernel
theorem dX4_placeOf_46 : decode cX4_placeOf 46 = .ok (.getfield 163, 3) := by decide +kernel
theorem dX4_placeOf_49 : decode cX4_placeOf 49 = .ok (.iload_n 2, 1) := by decide +kernel
theorem dX4_placeOf_50 : decode cX4_placeOf 50 = .ok (.iaload, 1) := by decide +kernel
theorem dX4_placeOf_51 : decode cX4_placeOf 51 = .ok (.ireturn, 1) := by decide +kernel
theorem dX4_placeOf_52 : decode cX4_placeOf 52 = .ok (.aload 4, 2) := by decide +kernel
theorem dX4_placeOf_54 : decode cX4_placeOf 54 = .ok (.getfield 166, 3) := by decide +kernel
theorem dX4_placeOf_57 : decode cX4_placeOf 57 = .ok (.iload_n 2, 1) := by decide +kernel
theorem dX4_placeOf_58 : decode cX4_placeOf 58 = .ok (.iaload, 1) := by decide +kernel
theorem dX4_placeOf_59 : decode cX4_placeOf 59 = .ok (.ireturn, 1) := by decide +kernel
theorem dX4_placeOf_60 : decode cX4_placeOf 60 = .ok (.aload 4, 2) := by decide +kernel
theorem dX4_placeOf_62 : decode cX4_placeOf 62 = .ok (.iload_n 2, 1) := by decide +kernel
theorem dX4_placeOf_63 : decode cX4_placeOf 63 = .ok (.invokevirtual 169, 3) := by decide +kernel
theorem dX4_placeOf_66 : decode cX4_placeOf 66 = .ok (.ireturn, 1) := by decide +kernel
theorem dX4_placeOf_67 : decode cX4_placeOf 67 = .ok (.iconst 0, 1) := by decide +kernel
theorem dX4_placeOf_68 : decode cX4_placeOf 68 = .ok (.aload_n 0, 1) := by decide +kernel
theorem dX4_placeOf_69 : decode cX4_placeOf 69 = .ok (.getfield 10, 3) := by decide +kernel
theorem dX4_placeOf_72 : decode cX4_placeOf 72 = .ok (.getfield 101, 3) := by decide +kernel
theorem dX4_placeOf_75 : decode cX4_placeOf 75 = .ok (.aload 4, 2) := by decide +kernel
theorem dX4_placeOf_77 : decode cX4_placeOf 77 = .ok (.iload_n 2, 1) := by decide +kernel
theorem dX4_placeOf_78 : decode cX4_placeOf 78 = .ok (.invokevirtual 173, 3) := by decide +kernel
theorem dX4_placeOf_81 : decode cX4_placeOf 81 = .ok (.isub, 1) := by decide +kernel
theorem dX4_placeOf_82 : decode cX4_placeOf 82 = .ok (.invokestatic 176, 3) := by decide +kernel
theorem dX4_placeOf_85 : decode cX4_placeOf 85 = .ok (.ireturn, 1) := by decide +kernel
theorem dX4_placeOf_86 : decode cX4_placeOf 86 = .ok (.new 69, 3) := by decide +kernel
theorem dX4_placeOf_89 : decode cX4_placeOf 89 = .ok (.dup, 1) := by decide +kernel
theorem dX4_placeOf_90 : decode cX4_placeOf 90 = .ok (.ldc 182, 2) := by decide +kernel
theorem dX4_placeOf_92 : decode cX4_placeOf 92 = .ok (.invokespecial 73, 3) := by decide +kernel
theorem dX4_placeOf_95 : decode cX4_placeOf 95 = .ok (.athrow, 1) := by decide +kernel
theorem dX4_part_0 : decode cX4_part 0 = .ok (.aload_n 0, 1) := by decide +kernel
theorem dX4_part_1 : decode cX4_part 1 = .ok (.iload_n 1, 1) := by decide +kernel
theorem dX4_part_2 : decode cX4_part 2 = .ok (.invokevirtual 53, 3) := by decide +kernel
theorem dX4_part_5 : decode cX4_part 5 = .ok (.astore_n 3, 1) := by decide +kernel
theorem dX4_part_6 : decode cX4_part 6 = .ok (.iload_n 2, 1) := by decide +kernel
theorem dX4_part_7 : decode cX4_part 7 = .ok (.ifCond .ge 13, 3) := by decide +kernel
theorem dX4_part_10 : decode cX4_part 10 = .ok (.new 69, 3) := by decide +kernel
theorem dX4_part_13 : decode cX4_part 13 = .ok (.dup, 1) := by decide +kernel
theorem dX4_part_14 : decode cX4_part 14 = .ok (.ldc 184, 2) := by decide +kernel
theorem dX4_part_16 : decode cX4_part 16 = .ok (.invokespecial 73, 3) := by decide +kernel
theorem dX4_part_19 : decode cX4_part 19 = .ok (.athrow, 1) := by decide +kernel
theorem dX4_part_20 : decode cX4_part 20 = .ok (.iload_n 2, 1) := by decide +kernel
theorem dX4_part_21 : decode cX4_part 21 = .ok (.aload_n 3, 1) := by decide +kernel
theorem dX4_part_22 : decode cX4_part 22 = .ok (.getfield 148, 3) := by decide +kernel
theorem dX4_part_25 : decode cX4_part 25 = .ok (.if_icmp .ge 12, 3) := by decide +kernel
theorem dX4_part_28 : decode cX4_part 28 = .ok (.aload_n 3, 1) := by decide +kernel
theorem dX4_part_29 : decode cX4_part 29 = .ok (.getfield 186, 3) := by decide +kernel
theorem dX4_part_32 : decode cX4_part 32 = .ok (.iload_n 2, 1) := by decide +kernel
theorem dX4_part_33 : decode cX4_part 33 = .ok (.iaload, 1) := by decide +kernel
theorem dX4_part_34 : decode cX4_part 34 = .ok (.goto 4, 3) := by decide +kernel
theorem dX4_part_37 : decode cX4_part 37 = .ok (.iconst (-1), 1) := by decide +kernel
theorem dX4_part_38 : decode cX4_part 38 = .ok (.ireturn, 1) := by decide +kernel
theorem dX4_count_0 : decode cX4_count 0 = .ok (.iload_n 1, 1) := by decide +kernel
theorem dX4_count_1 : decode cX4_count 1 = .ok (.tableswitch 135 0 9 #[55, 63, 71, 79, 87, 95, 103, 111, 119, 127], 55) := by decide +kernel
theorem dX4_count_56 : decode cX4_count 56 = .ok (.aload_n 0, 1) := by decide +kernel
theorem dX4_count_57 : decode cX4_count 57 = .ok (.getfield 10, 3) := by decide +kernel
theorem dX4_count_60 : decode cX4_count 60 = .ok (.invokevirtual 189, 3) := by decide +kernel
theorem dX4_count_63 : decode cX4_count 63 = .ok (.ireturn, 1) := by decide +kernel
theorem dX4_count_64 : decode cX4_count 64 = .ok (.aload_n 0, 1) := by decide +kernel
theorem dX4_count_65 : decode cX4_count 65 = .ok (.getfield 10, 3) := by decide +kernel
theorem dX4_count_68 : decode cX4_count 68 = .ok (.invokevirtual 130, 3) := by decide +kernel
theorem dX4_count_71 : decode cX4_count 71 = .ok (.ireturn, 1) := by decide +kernel
theorem dX4_count_72 : decode cX4_count 72 = .ok (.aload_n 0, 1) := by decide +kernel
theorem dX4_count_73 : decode cX4_count 73 = .ok (.getfield 10, 3) := by decide +kernel
theorem dX4_count_76 : decode cX4_count 76 = .ok (.getfield 190, 3) := by decide +kernel
theorem dX4_count_79 : decode cX4_count 79 = .ok (.ireturn, 1) := by decide +kernel
theorem dX4_count_80 : decode cX4_count 80 = .ok (.aload_n 0, 1) := by decide +kernel
theorem dX4_count_81 : decode cX4_count 81 = .ok (.getfield 10, 3) := by decide +kernel
theorem dX4_count_84 : decode cX4_count 84 = .ok (.getfield 193, 3) := by decide +kernel
theorem dX4_count_87 : decode cX4_count 87 = .ok (.ireturn, 1) := by decide +kernel
theorem dX4_count_88 : decode cX4_count 88 = .ok (.aload_n 0, 1) := by decide +kernel
theorem dX4_count_89 : decode cX4_count 89 = .ok (.getfield 10, 3) := by decide +kernel
theorem dX4_count_92 : decode cX4_count 92 = .ok (.getfield 196, 3) := by decide +kernel
theorem dX4_count_95 : decode cX4_count 95 = .ok (.ireturn, 1) := by decide +kernel
theorem dX4_count_96 : decode cX4_count 96 = .ok (.aload_n 0, 1) := by decide +kernel
theorem dX4_count_97 : decode cX4_count 97 = .ok (.getfield 10, 3) := by decide +kernel
theorem dX4_count_100 : decode cX4_count 100 = .ok (.getfield 197, 3) := by decide +kernel
theorem dX4_count_103 : decode cX4_count 103 = .ok (.ireturn, 1) := by decide +kernel
theorem dX4_count_104 : decode cX4_count 104 = .ok (.aload_n 0, 1) := by decide +kernel
theorem dX4_count_105 : decode cX4_count 105 = .ok (.getfield 10, 3) := by decide +kernel
theorem dX4_count_108 : decode cX4_count 108 = .ok (.getfield 200, 3) := by decide +kernel
theorem dX4_count_111 : decode cX4_count 111 = .ok (.ireturn, 1) := by decide +kernel
theorem dX4_count_112 : decode cX4_count 112 = .ok (.aload_n 0, 1) := by decide +kernel
theorem dX4_count_113 : decode cX4_count 113 = .ok (.getfield 10, 3) := by decide +kernel
theorem dX4_count_116 : decode cX4_count 116 = .ok (.invokevirtual 203, 3) := by decide +kernel
theorem dX4_count_119 : decode cX4_count 119 = .ok (.ireturn, 1) := by decide +kernel
theorem dX4_count_120 : decode cX4_count 120 = .ok (.aload_n 0, 1) := by decide +kernel
theorem dX4_count_121 : decode cX4_count 121 = .ok (.getfield 10, 3) := by decide +kernel
theorem dX4_count_124 : decode cX4_count 124 = .ok (.getfield 101, 3) := by decide +kernel
theorem dX4_count_127 : decode cX4_count 127 = .ok (.ireturn, 1) := by decide +kernel
theorem dX4_count_128 : decode cX4_count 128 = .ok (.aload_n 0, 1) := by decide +kernel
theorem dX4_count_129 : decode cX4_count 129 = .ok (.getfield 19, 3) := by decide +kernel
theorem dX4_count_132 : decode cX4_count 132 = .ok (.getfield 135, 3) := by decide +kernel
theorem dX4_count_135 : decode cX4_count 135 = .ok (.ireturn, 1) := by decide +kernel
theorem dX4_count_136 : decode cX4_count 136 = .ok (.new 69, 3) := by decide +kernel
theorem dX4_count_139 : decode cX4_count 139 = .ok (.dup, 1) := by decide +kernel
theorem dX4_count_140 : decode cX4_count 140 = .ok (.ldc 206, 2) := by decide +kernel
theorem dX4_count_142 : decode cX4_count 142 = .ok (.invokespecial 73, 3) := by decide +kernel
theorem dX4_count_145 : decode cX4_count 145 = .ok (.athrow, 1) := by decide +kernel
theorem dX4_byHue_0 : decode cX4_byHue 0 = .ok (.iload_n 1, 1) := by decide +kernel
theorem dX4_byHue_1 : decode cX4_byHue 1 = .ok (.invokestatic 93, 3) := by decide +kernel
theorem dX4_byHue_4 : decode cX4_byHue 4 = .ok (.aload_n 0, 1) := by decide +kernel
theorem dX4_byHue_5 : decode cX4_byHue 5 = .ok (.getfield 10, 3) := by decide +kernel
theorem dX4_byHue_8 : decode cX4_byHue 8 = .ok (.iload_n 1, 1) := by decide +kernel
theorem dX4_byHue_9 : decode cX4_byHue 9 = .ok (.invokevirtual 208, 3) := by decide +kernel
theorem dX4_byHue_12 : decode cX4_byHue 12 = .ok (.ireturn, 1) := by decide +kernel
theorem dX4_whyNot_0 : decode cX4_whyNot 0 = .ok (.aload_n 0, 1) := by decide +kernel
theorem dX4_whyNot_1 : decode cX4_whyNot 1 = .ok (.iload_n 1, 1) := by decide +kernel
theorem dX4_whyNot_2 : decode cX4_whyNot 2 = .ok (.invokevirtual 53, 3) := by decide +kernel
theorem dX4_whyNot_5 : decode cX4_whyNot 5 = .ok (.astore_n 3, 1) := by decide +kernel
theorem dX4_whyNot_6 : decode cX4_whyNot 6 = .ok (.iload_n 2, 1) := by decide +kernel
theorem dX4_whyNot_7 : decode cX4_whyNot 7 = .ok (.invokestatic 57, 3) := by decide +kernel
theorem dX4_whyNot_10 : decode cX4_whyNot 10 = .ok (.aload_n 3, 1) := by decide +kernel
theorem dX4_whyNot_11 : decode cX4_whyNot 11 = .ok (.iload_n 2, 1) := by decide +kernel
theorem dX4_whyNot_12 : decode cX4_whyNot 12 = .ok (.aload_n 0, 1) := by decide +kernel
theorem dX4_whyNot_13 : decode cX4_whyNot 13 = .ok (.getfield 10, 3) := by decide +kernel
theorem dX4_whyNot_16 : decode cX4_whyNot 16 = .ok (.getfield 101, 3) := by decide +kernel
theorem dX4_whyNot_19 : decode cX4_whyNot 19 = .ok (.invokevirtual 211, 3) := by decide +kernel
theorem dX4_whyNot_22 : decode cX4_whyNot 22 = .ok (.ireturn, 1) := by decide +kernel
theorem dX4_howOften_0 : decode cX4_howOften 0 = .ok (.aload_n 0, 1) := by decide +kernel
theorem dX4_howOften_1 : decode cX4_howOften 1 = .ok (.iload_n 1, 1) := by decide +kernel
theorem dX4_howOften_2 : decode cX4_howOften 2 = .ok (.invokevirtual 53, 3) := by decide +kernel
theorem dX4_howOften_5 : decode cX4_howOften 5 = .ok (.astore_n 3, 1) := by decide +kernel
theorem dX4_howOften_6 : decode cX4_howOften 6 = .ok (.iload_n 2, 1) := by decide +kernel
theorem dX4_howOften_7 : decode cX4_howOften 7 = .ok (.invokestatic 57, 3) := by decide +kernel
theorem dX4_howOften_10 : decode cX4_howOften 10 = .ok (.aload_n 0, 1) := by decide +kernel
theorem dX4_howOften_11 : decode cX4_howOften 11 = .ok (.getfield 45, 3) := by decide +kernel
theorem dX4_howOften_14 : decode cX4_howOften 14 = .ok (.aload_n 3, 1) := by decide +kernel
theorem dX4_howOften_15 : decode cX4_howOften 15 = .ok (.invokevirtual 214, 3) := by decide +kernel
theorem dX4_howOften_18 : decode cX4_howOften 18 = .ok (.iconst 0, 1) := by decide +kernel
theorem dX4_howOften_19 : decode cX4_howOften 19 = .ok (.istore 4, 2) := by decide +kernel
theorem dX4_howOften_21 : decode cX4_howOften 21 = .ok (.iload 4, 2) := by decide +kernel
theorem dX4_howOften_23 : decode cX4_howOften 23 = .ok (.bipush 16, 2) := by decide +kernel
theorem dX4_howOften_25 : decode cX4_howOften 25 = .ok (.if_icmp .ge 35, 3) := by decide +kernel
theorem dX4_howOften_28 : decode cX4_howOften 28 = .ok (.aload_n 0, 1) := by decide +kernel
theorem dX4_howOften_29 : decode cX4_howOften 29 = .ok (.getfield 45, 3) := by decide +kernel
theorem dX4_howOften_32 : decode cX4_howOften 32 = .ok (.iload_n 2, 1) := by decide +kernel
theorem dX4_howOften_33 : decode cX4_howOften 33 = .ok (.aload_n 0, 1) := by decide +kernel
theorem dX4_howOften_34 : decode cX4_howOften 34 = .ok (.getfield 10, 3) := by decide +kernel
theorem dX4_howOften_37 : decode cX4_howOften 37 = .ok (.getfield 101, 3) := by decide +kernel
theorem dX4_howOften_40 : decode cX4_howOften 40 = .ok (.invokevirtual 211, 3) := by decide +kernel
theorem dX4_howOften_43 : decode cX4_howOften 43 = .ok (.ifCond .ne 17, 3) := by decide +kernel
theorem dX4_howOften_46 : decode cX4_howOften 46 = .ok (.aload_n 0, 1) := by decide +kernel
theorem dX4_howOften_47 : decode cX4_howOften 47 = .ok (.getfield 45, 3) := by decide +kernel
theorem dX4_howOften_50 : decode cX4_howOften 50 = .ok (.iload_n 2, 1) := by decide +kernel
theorem dX4_howOften_51 : decode cX4_howOften 51 = .ok (.invokevirtual 217, 3) := by decide +kernel
theorem dX4_howOften_54 : decode cX4_howOften 54 = .ok (.iinc 4 1, 3) := by decide +kernel
theorem dX4_howOften_57 : decode cX4_howOften 57 = .ok (.goto (-36), 3) := by decide +kernel
theorem dX4_howOften_60 : decode cX4_howOften 60 = .ok (.iload 4, 2) := by decide +kernel
theorem dX4_howOften_62 : decode cX4_howOften 62 = .ok (.ireturn, 1) := by decide +kernel
theorem dX4_cordsFor_0 : decode cX4_cordsFor 0 = .ok (.iload_n 1, 1) := by decide +kernel
theorem dX4_cordsFor_1 : decode cX4_cordsFor 1 = .ok (.iconst 1, 1) := by decide +kernel
theorem dX4_cordsFor_2 : decode cX4_cordsFor 2 = .ok (.if_icmp .lt 9, 3) := by decide +kernel
theorem dX4_cordsFor_5 : decode cX4_cordsFor 5 = .ok (.iload_n 1, 1) := by decide +kernel
theorem dX4_cordsFor_6 : decode cX4_cordsFor 6 = .ok (.ldc 220, 2) := by decide +kernel
theorem dX4_cordsFor_8 : decode cX4_cordsFor 8 = .ok (.if_icmp .le 13, 3) := by decide +kernel
theorem dX4_cordsFor_11 : decode cX4_cordsFor 11 = .ok (.new 69, 3) := by decide +kernel
theorem dX4_cordsFor_14 : decode cX4_cordsFor 14 = .ok (.dup, 1) := by decide +kernel
theorem dX4_cordsFor_15 : decode cX4_cordsFor 15 = .ok (.ldc 221, 2) := by decide +kernel
theorem dX4_cordsFor_17 : decode cX4_cordsFor 17 = .ok (.invokespecial 73, 3) := by decide +kernel
theorem dX4_cordsFor_20 : decode cX4_cordsFor 20 = .ok (.athrow, 1) := by decide +kernel
theorem dX4_cordsFor_21 : decode cX4_cordsFor 21 = .ok (.iload_n 2, 1) := by decide +kernel
theorem dX4_cordsFor_22 : decode cX4_cordsFor 22 = .ok (.ifCond .eq 18, 3) := by decide +kernel
theorem dX4_cordsFor_25 : decode cX4_cordsFor 25 = .ok (.iload_n 2, 1) := by decide +kernel
theorem dX4_cordsFor_26 : decode cX4_cordsFor 26 = .ok (.iconst 1, 1) := by decide +kernel
theorem dX4_cordsFor_27 : decode cX4_cordsFor 27 = .ok (.if_icmp .eq 13, 3) := by decide +kernel
theorem dX4_cordsFor_30 : decode cX4_cordsFor 30 = .ok (.new 69, 3) := by decide +kernel
theorem dX4_cordsFor_33 : decode cX4_cordsFor 33 = .ok (.dup, 1) := by decide +kernel
theorem dX4_cordsFor_34 : decode cX4_cordsFor 34 = .ok (.ldc 223, 2) := by decide +kernel
theorem dX4_cordsFor_36 : decode cX4_cordsFor 36 = .ok (.invokespecial 73, 3) := by decide +kernel
theorem dX4_cordsFor_39 : decode cX4_cordsFor 39 = .ok (.athrow, 1) := by decide +kernel
theorem dX4_cordsFor_40 : decode cX4_cordsFor 40 = .ok (.aload_n 0, 1) := by decide +kernel
theorem dX4_cordsFor_41 : decode cX4_cordsFor 41 = .ok (.getfield 10, 3) := by decide +kernel
theorem dX4_cordsFor_44 : decode cX4_cordsFor 44 = .ok (.aload_n 0, 1) := by decide +kernel
theorem dX4_cordsFor_45 : decode cX4_cordsFor 45 = .ok (.getfield 49, 3) := by decide +kernel
theorem dX4_cordsFor_48 : decode cX4_cordsFor 48 = .ok (.invokevirtual 225, 3) := by decide +kernel
theorem dX4_cordsFor_51 : decode cX4_cordsFor 51 = .ok (.iload_n 2, 1) := by decide +kernel
theorem dX4_cordsFor_52 : decode cX4_cordsFor 52 = .ok (.ifCond .ne 14, 3) := by decide +kernel
theorem dX4_cordsFor_55 : decode cX4_cordsFor 55 = .ok (.aload_n 0, 1) := by decide +kernel
theorem dX4_cordsFor_56 : decode cX4_cordsFor 56 = .ok (.getfield 49, 3) := by decide +kernel
theorem dX4_cordsFor_59 : decode cX4_cordsFor 59 = .ok (.iload_n 1, 1) := by decide +kernel
theorem dX4_cordsFor_60 : decode cX4_cordsFor 60 = .ok (.invokestatic 229, 3) := by decide +kernel
theorem dX4_cordsFor_63 : decode cX4_cordsFor 63 = .ok (.goto 14, 3) := by decide +kernel
theorem dX4_cordsFor_66 : decode cX4_cordsFor 66 = .ok (.aload_n 0, 1) := by decide +kernel
theorem dX4_cordsFor_67 : decode cX4_cordsFor 67 = .ok (.getfield 49, 3) := by decide +kernel
theorem dX4_cordsFor_70 : decode cX4_cordsFor 70 = .ok (.iconst 0, 1) := by decide +kernel
theorem dX4_cordsFor_71 : decode cX4_cordsFor 71 = .ok (.iload_n 1, 1) := by decide +kernel
theorem dX4_cordsFor_72 : decode cX4_cordsFor 72 = .ok (.iconst 0, 1) := by decide +kernel
theorem dX4_cordsFor_73 : decode cX4_cordsFor 73 = .ok (.iconst (-1), 1) := by decide +kernel
theorem dX4_cordsFor_74 : decode cX4_cordsFor 74 = .ok (.invokestatic 233, 3) := by decide +kernel
theorem dX4_cordsFor_77 : decode cX4_cordsFor 77 = .ok (.ireturn, 1) := by decide +kernel
theorem dX4_fullest_0 : decode cX4_fullest 0 = .ok (.aload_n 0, 1) := by decide +kernel
theorem dX4_fullest_1 : decode cX4_fullest 1 = .ok (.getfield 10, 3) := by decide +kernel
theorem dX4_fullest_4 : decode cX4_fullest 4 = .ok (.invokevirtual 237, 3) := by decide +kernel
theorem dX4_fullest_7 : decode cX4_fullest 7 = .ok (.ireturn, 1) := by decide +kernel
theorem dX4_closedShare_0 : decode cX4_closedShare 0 = .ok (.aload_n 0, 1) := by decide +kernel
theorem dX4_closedShare_1 : decode cX4_closedShare 1 = .ok (.getfield 10, 3) := by decide +kernel
theorem dX4_closedShare_4 : decode cX4_closedShare 4 = .ok (.invokevirtual 240, 3) := by decide +kernel
theorem dX4_closedShare_7 : decode cX4_closedShare 7 = .ok (.istore_n 1, 1) := by decide +kernel
theorem dX4_closedShare_8 : decode cX4_closedShare 8 = .ok (.iload_n 1, 1) := by decide +kernel
theorem dX4_closedShare_9 : decode cX4_closedShare 9 = .ok (.ifCond .ne 7, 3) := by decide +kernel
theorem dX4_closedShare_12 : decode cX4_closedShare 12 = .ok (.dconst 0, 1) := by decide +kernel
theorem dX4_closedShare_13 : decode cX4_closedShare 13 = .ok (.goto 17, 3) := by decide +kernel
theorem dX4_closedShare_16 : decode cX4_closedShare 16 = .ok (.bipush 10, 2) := by decide +kernel
theorem dX4_closedShare_18 : decode cX4_closedShare 18 = .ok (.aload_n 0, 1) := by decide +kernel
theorem dX4_closedShare_19 : decode cX4_closedShare 19 = .ok (.getfield 10, 3) := by decide +kernel
theorem dX4_closedShare_22 : decode cX4_closedShare 22 = .ok (.invokevirtual 242, 3) := by decide +kernel
theorem dX4_closedShare_25 : decode cX4_closedShare 25 = .ok (.imul, 1) := by decide +kernel
theorem dX4_closedShare_26 : decode cX4_closedShare 26 = .ok (.i2d, 1) := by decide +kernel
theorem dX4_closedShare_27 : decode cX4_closedShare 27 = .ok (.iload_n 1, 1) := by decide +kernel
theorem dX4_closedShare_28 : decode cX4_closedShare 28 = .ok (.i2d, 1) := by decide +kernel
theorem dX4_closedShare_29 : decode cX4_closedShare 29 = .ok (.ddiv, 1) := by decide +kernel
theorem dX4_closedShare_30 : decode cX4_closedShare 30 = .ok (.dreturn, 1) := by decide +kernel
theorem dX4_digest_0 : decode cX4_digest 0 = .ok (.ldc2_w 244, 3) := by decide +kernel
theorem dX4_digest_3 : decode cX4_digest 3 = .ok (.lstore_n 1, 1) := by decide +kernel
theorem dX4_digest_4 : decode cX4_digest 4 = .ok (.iconst 0, 1) := by decide +kernel
theorem dX4_digest_5 : decode cX4_digest 5 = .ok (.istore_n 3, 1) := by decide +kernel
theorem dX4_digest_6 : decode cX4_digest 6 = .ok (.iload_n 3, 1) := by decide +kernel
theorem dX4_digest_7 : decode cX4_digest 7 = .ok (.bipush 9, 2) := by decide +kernel
theorem dX4_digest_9 : decode cX4_digest 9 = .ok (.if_icmp .gt 20, 3) := by decide +kernel
theorem dX4_digest_12 : decode cX4_digest 12 = .ok (.lload_n 1, 1) := by decide +kernel
theorem dX4_digest_13 : decode cX4_digest 13 = .ok (.aload_n 0, 1) := by decide +kernel
theorem dX4_digest_14 : decode cX4_digest 14 = .ok (.iload_n 3, 1) := by decide +kernel
theorem dX4_digest_15 : decode cX4_digest 15 = .ok (.invokevirtual 246, 3) := by decide +kernel
theorem dX4_digest_18 : decode cX4_digest 18 = .ok (.i2l, 1) := by decide +kernel
theorem dX4_digest_19 : decode cX4_digest 19 = .ok (.invokestatic 249, 3) := by decide +kernel
theorem dX4_digest_22 : decode cX4_digest 22 = .ok (.lstore_n 1, 1) := by decide +kernel
theorem dX4_digest_23 : decode cX4_digest 23 = .ok (.iinc 3 1, 3) := by decide +kernel
theorem dX4_digest_26 : decode cX4_digest 26 = .ok (.goto (-20), 3) := by decide +kernel
theorem dX4_digest_29 : decode cX4_digest 29 = .ok (.iconst 0, 1) := by decide +kernel
theorem dX4_digest_30 : decode cX4_digest 30 = .ok (.istore_n 3, 1) := by decide +kernel
theorem dX4_digest_31 : decode cX4_digest 31 = .ok (.iload_n 3, 1) := by decide +kernel
theorem dX4_digest_32 : decode cX4_digest 32 = .ok (.bipush 7, 2) := by decide +kernel
theorem dX4_digest_34 : decode cX4_digest 34 = .ok (.if_icmp .ge 16, 3) := by decide +kernel
theorem dX4_digest_37 : decode cX4_digest 37 = .ok (.aload_n 0, 1) := by decide +kernel
theorem dX4_digest_38 : decode cX4_digest 38 = .ok (.lload_n 1, 1) := by decide +kernel
theorem dX4_digest_39 : decode cX4_digest 39 = .ok (.iload_n 3, 1) := by decide +kernel
theorem dX4_digest_40 : decode cX4_digest 40 = .ok (.invokevirtual 253, 3) := by decide +kernel
theorem dX4_digest_43 : decode cX4_digest 43 = .ok (.lstore_n 1, 1) := by decide +kernel
theorem dX4_digest_44 : decode cX4_digest 44 = .ok (.iinc 3 1, 3) := by decide +kernel
theorem dX4_digest_47 : decode cX4_digest 47 = .ok (.goto (-16), 3) := by decide +kernel
theorem dX4_digest_50 : decode cX4_digest 50 = .ok (.iconst 0, 1) := by decide +kernel
theorem dX4_digest_51 : decode cX4_digest 51 = .ok (.istore_n 3, 1) := by decide +kernel
theorem dX4_digest_52 : decode cX4_digest 52 = .ok (.iload_n 3, 1) := by decide +kernel
theorem dX4_digest_53 : decode cX4_digest 53 = .ok (.bipush 6, 2) := by decide +kernel
theorem dX4_digest_55 : decode cX4_digest 55 = .ok (.if_icmp .ge 20, 3) := by decide +kernel
theorem dX4_digest_58 : decode cX4_digest 58 = .ok (.lload_n 1, 1) := by decide +kernel
theorem dX4_digest_59 : decode cX4_digest 59 = .ok (.aload_n 0, 1) := by decide +kernel
theorem dX4_digest_60 : decode cX4_digest 60 = .ok (.iload_n 3, 1) := by decide +kernel
theorem dX4_digest_61 : decode cX4_digest 61 = .ok (.invokevirtual 257, 3) := by decide +kernel
theorem dX4_digest_64 : decode cX4_digest 64 = .ok (.i2l, 1) := by decide +kernel
theorem dX4_digest_65 : decode cX4_digest 65 = .ok (.invokestatic 249, 3) := by decide +kernel
theorem dX4_digest_68 : decode cX4_digest 68 = .ok (.lstore_n 1, 1) := by decide +kernel
theorem dX4_digest_69 : decode cX4_digest 69 = .ok (.iinc 3 1, 3) := by decide +kernel
theorem dX4_digest_72 : decode cX4_digest 72 = .ok (.goto (-20), 3) := by decide +kernel
theorem dX4_digest_75 : decode cX4_digest 75 = .ok (.lload_n 1, 1) := by decide +kernel
theorem dX4_digest_76 : decode cX4_digest 76 = .ok (.aload_n 0, 1) := by decide +kernel
theorem dX4_digest_77 : decode cX4_digest 77 = .ok (.bipush 95, 2) := by decide +kernel
theorem dX4_digest_79 : decode cX4_digest 79 = .ok (.iconst 0, 1) := by decide +kernel
theorem dX4_digest_80 : decode cX4_digest 80 = .ok (.invokevirtual 260, 3) := by decide +kernel
theorem dX4_digest_83 : decode cX4_digest 83 = .ok (.i2l, 1) := by decide +kernel
theorem dX4_digest_84 : decode cX4_digest 84 = .ok (.invokestatic 249, 3) := by decide +kernel
theorem dX4_digest_87 : decode cX4_digest 87 = .ok (.lstore_n 1, 1) := by decide +kernel
theorem dX4_digest_88 : decode cX4_digest 88 = .ok (.lload_n 1, 1) := by decide +kernel
theorem dX4_digest_89 : decode cX4_digest 89 = .ok (.aload_n 0, 1) := by decide +kernel
theorem dX4_digest_90 : decode cX4_digest 90 = .ok (.bipush 95, 2) := by decide +kernel
theorem dX4_digest_92 : decode cX4_digest 92 = .ok (.iconst 1, 1) := by decide +kernel
theorem dX4_digest_93 : decode cX4_digest 93 = .ok (.invokevirtual 260, 3) := by decide +kernel
theorem dX4_digest_96 : decode cX4_digest 96 = .ok (.i2l, 1) := by decide +kernel
theorem dX4_digest_97 : decode cX4_digest 97 = .ok (.invokestatic 249, 3) := by decide +kernel
theorem dX4_digest_100 : decode cX4_digest 100 = .ok (.lstore_n 1, 1) := by decide +kernel
theorem dX4_digest_101 : decode cX4_digest 101 = .ok (.lload_n 1, 1) := by decide +kernel
theorem dX4_digest_102 : decode cX4_digest 102 = .ok (.aload_n 0, 1) := by decide +kernel
theorem dX4_digest_103 : decode cX4_digest 103 = .ok (.sipush 1234, 3) := by decide +kernel
theorem dX4_digest_106 : decode cX4_digest 106 = .ok (.iconst 0, 1) := by decide +kernel
theorem dX4_digest_107 : decode cX4_digest 107 = .ok (.invokevirtual 260, 3) := by decide +kernel
theorem dX4_digest_110 : decode cX4_digest 110 = .ok (.i2l, 1) := by decide +kernel
theorem dX4_digest_111 : decode cX4_digest 111 = .ok (.invokestatic 249, 3) := by decide +kernel
theorem dX4_digest_114 : decode cX4_digest 114 = .ok (.lstore_n 1, 1) := by decide +kernel
theorem dX4_digest_115 : decode cX4_digest 115 = .ok (.lload_n 1, 1) := by decide +kernel
theorem dX4_digest_116 : decode cX4_digest 116 = .ok (.aload_n 0, 1) := by decide +kernel
theorem dX4_digest_117 : decode cX4_digest 117 = .ok (.sipush 1234, 3) := by decide +kernel
theorem dX4_digest_120 : decode cX4_digest 120 = .ok (.iconst 1, 1) := by decide +kernel
theorem dX4_digest_121 : decode cX4_digest 121 = .ok (.invokevirtual 260, 3) := by decide +kernel
theorem dX4_digest_124 : decode cX4_digest 124 = .ok (.i2l, 1) := by decide +kernel
theorem dX4_digest_125 : decode cX4_digest 125 = .ok (.invokestatic 249, 3) := by decide +kernel
theorem dX4_digest_128 : decode cX4_digest 128 = .ok (.lstore_n 1, 1) := by decide +kernel
theorem dX4_digest_129 : decode cX4_digest 129 = .ok (.lload_n 1, 1) := by decide +kernel
theorem dX4_digest_130 : decode cX4_digest 130 = .ok (.aload_n 0, 1) := by decide +kernel
theorem dX4_digest_131 : decode cX4_digest 131 = .ok (.invokevirtual 263, 3) := by decide +kernel
theorem dX4_digest_134 : decode cX4_digest 134 = .ok (.i2l, 1) := by decide +kernel
theorem dX4_digest_135 : decode cX4_digest 135 = .ok (.invokestatic 249, 3) := by decide +kernel
theorem dX4_digest_138 : decode cX4_digest 138 = .ok (.lstore_n 1, 1) := by decide +kernel
theorem dX4_digest_139 : decode cX4_digest 139 = .ok (.lload_n 1, 1) := by decide +kernel
theorem dX4_digest_140 : decode cX4_digest 140 = .ok (.aload_n 0, 1) := by decide +kernel
theorem dX4_digest_141 : decode cX4_digest 141 = .ok (.invokevirtual 266, 3) := by decide +kernel
theorem dX4_digest_144 : decode cX4_digest 144 = .ok (.invokestatic 270, 3) := by decide +kernel
theorem dX4_digest_147 : decode cX4_digest 147 = .ok (.invokestatic 249, 3) := by decide +kernel
theorem dX4_digest_150 : decode cX4_digest 150 = .ok (.lstore_n 1, 1) := by decide +kernel
theorem dX4_digest_151 : decode cX4_digest 151 = .ok (.iconst 0, 1) := by decide +kernel
theorem dX4_digest_152 : decode cX4_digest 152 = .ok (.istore_n 3, 1) := by decide +kernel
theorem dX4_digest_153 : decode cX4_digest 153 = .ok (.iload_n 3, 1) := by decide +kernel
theorem dX4_digest_154 : decode cX4_digest 154 = .ok (.iconst 2, 1) := by decide +kernel
theorem dX4_digest_155 : decode cX4_digest 155 = .ok (.if_icmp .ge 28, 3) := by decide +kernel
theorem dX4_digest_158 : decode cX4_digest 158 = .ok (.lload_n 1, 1) := by decide +kernel
theorem dX4_digest_159 : decode cX4_digest 159 = .ok (.aload_n 0, 1) := by decide +kernel
theorem dX4_digest_160 : decode cX4_digest 160 = .ok (.getfield 23, 3) := by decide +kernel
theorem dX4_digest_163 : decode cX4_digest 163 = .ok (.iload_n 3, 1) := by decide +kernel
theorem dX4_digest_164 : decode cX4_digest 164 = .ok (.aaload, 1) := by decide +kernel
theorem dX4_digest_165 : decode cX4_digest 165 = .ok (.ifnonnull 7, 3) := by decide +kernel
theorem dX4_digest_168 : decode cX4_digest 168 = .ok (.lconst 0, 1) := by decide +kernel
theorem dX4_digest_169 : decode cX4_digest 169 = .ok (.goto 4, 3) := by decide +kernel
theorem dX4_digest_172 : decode cX4_digest 172 = .ok (.lconst 1, 1) := by decide +kernel
theorem dX4_digest_173 : decode cX4_digest 173 = .ok (.invokestatic 249, 3) := by decide +kernel
theorem dX4_digest_176 : decode cX4_digest 176 = .ok (.lstore_n 1, 1) := by decide +kernel
theorem dX4_digest_177 : decode cX4_digest 177 = .ok (.iinc 3 1, 3) := by decide +kernel
theorem dX4_digest_180 : decode cX4_digest 180 = .ok (.goto (-27), 3) := by decide +kernel
theorem dX4_digest_183 : decode cX4_digest 183 = .ok (.lload_n 1, 1) := by decide +kernel
theorem dX4_digest_184 : decode cX4_digest 184 = .ok (.aload_n 0, 1) := by decide +kernel
theorem dX4_digest_185 : decode cX4_digest 185 = .ok (.getfield 31, 3) := by decide +kernel
theorem dX4_digest_188 : decode cX4_digest 188 = .ok (.i2l, 1) := by decide +kernel
theorem dX4_digest_189 : decode cX4_digest 189 = .ok (.invokestatic 249, 3) := by decide +kernel
theorem dX4_digest_192 : decode cX4_digest 192 = .ok (.lstore_n 1, 1) := by decide +kernel
theorem dX4_digest_193 : decode cX4_digest 193 = .ok (.iconst 0, 1) := by decide +kernel
theorem dX4_digest_194 : decode cX4_digest 194 = .ok (.istore_n 3, 1) := by decide +kernel
theorem dX4_digest_195 : decode cX4_digest 195 = .ok (.iload_n 3, 1) := by decide +kernel
theorem dX4_digest_196 : decode cX4_digest 196 = .ok (.aload_n 0, 1) := by decide +kernel
theorem dX4_digest_197 : decode cX4_digest 197 = .ok (.getfield 31, 3) := by decide +kernel
theorem dX4_digest_200 : decode cX4_digest 200 = .ok (.if_icmp .ge 21, 3) := by decide +kernel
theorem dX4_digest_203 : decode cX4_digest 203 = .ok (.lload_n 1, 1) := by decide +kernel
theorem dX4_digest_204 : decode cX4_digest 204 = .ok (.aload_n 0, 1) := by decide +kernel
theorem dX4_digest_205 : decode cX4_digest 205 = .ok (.getfield 27, 3) := by decide +kernel
theorem dX4_digest_208 : decode cX4_digest 208 = .ok (.iload_n 3, 1) := by decide +kernel
theorem dX4_digest_209 : decode cX4_digest 209 = .ok (.caload, 1) := by decide +kernel
theorem dX4_digest_210 : decode cX4_digest 210 = .ok (.i2l, 1) := by decide +kernel
theorem dX4_digest_211 : decode cX4_digest 211 = .ok (.invokestatic 249, 3) := by decide +kernel
theorem dX4_digest_214 : decode cX4_digest 214 = .ok (.lstore_n 1, 1) := by decide +kernel
theorem dX4_digest_215 : decode cX4_digest 215 = .ok (.iinc 3 1, 3) := by decide +kernel
theorem dX4_digest_218 : decode cX4_digest 218 = .ok (.goto (-23), 3) := by decide +kernel
theorem dX4_digest_221 : decode cX4_digest 221 = .ok (.lload_n 1, 1) := by decide +kernel
theorem dX4_digest_222 : decode cX4_digest 222 = .ok (.lreturn, 1) := by decide +kernel
theorem dX4_cordAt_0 : decode cX4_cordAt 0 = .ok (.iload_n 1, 1) := by decide +kernel
theorem dX4_cordAt_1 : decode cX4_cordAt 1 = .ok (.ifCond .lt 9, 3) := by decide +kernel
theorem dX4_cordAt_4 : decode cX4_cordAt 4 = .ok (.iload_n 1, 1) := by decide +kernel
theorem dX4_cordAt_5 : decode cX4_cordAt 5 = .ok (.bipush 7, 2) := by decide +kernel
theorem dX4_cordAt_7 : decode cX4_cordAt 7 = .ok (.if_icmp .lt 14, 3) := by decide +kernel
theorem dX4_cordAt_10 : decode cX4_cordAt 10 = .ok (.new 274, 3) := by decide +kernel
theorem dX4_cordAt_13 : decode cX4_cordAt 13 = .ok (.dup, 1) := by decide +kernel
theorem dX4_cordAt_14 : decode cX4_cordAt 14 = .ok (.ldc_w 276, 3) := by decide +kernel
theorem dX4_cordAt_17 : decode cX4_cordAt 17 = .ok (.invokespecial 278, 3) := by decide +kernel
theorem dX4_cordAt_20 : decode cX4_cordAt 20 = .ok (.athrow, 1) := by decide +kernel
theorem dX4_cordAt_21 : decode cX4_cordAt 21 = .ok (.aload_n 0, 1) := by decide +kernel
theorem dX4_cordAt_22 : decode cX4_cordAt 22 = .ok (.getfield 10, 3) := by decide +kernel
theorem dX4_cordAt_25 : decode cX4_cordAt 25 = .ok (.getfield 279, 3) := by decide +kernel
theorem dX4_cordAt_28 : decode cX4_cordAt 28 = .ok (.iload_n 1, 1) := by decide +kernel
theorem dX4_cordAt_29 : decode cX4_cordAt 29 = .ok (.aaload, 1) := by decide +kernel
theorem dX4_cordAt_30 : decode cX4_cordAt 30 = .ok (.areturn, 1) := by decide +kernel
theorem dX4_checkPlace_0 : decode cX4_checkPlace 0 = .ok (.iload_n 0, 1) := by decide +kernel
theorem dX4_checkPlace_1 : decode cX4_checkPlace 1 = .ok (.ifCond .lt 9, 3) := by decide +kernel
theorem dX4_checkPlace_4 : decode cX4_checkPlace 4 = .ok (.iload_n 0, 1) := by decide +kernel
theorem dX4_checkPlace_5 : decode cX4_checkPlace 5 = .ok (.bipush 6, 2) := by decide +kernel
theorem dX4_checkPlace_7 : decode cX4_checkPlace 7 = .ok (.if_icmp .lt 14, 3) := by decide +kernel
theorem dX4_checkPlace_10 : decode cX4_checkPlace 10 = .ok (.new 274, 3) := by decide +kernel
theorem dX4_checkPlace_13 : decode cX4_checkPlace 13 = .ok (.dup, 1) := by decide +kernel
theorem dX4_checkPlace_14 : decode cX4_checkPlace 14 = .ok (.ldc_w 283, 3) := by decide +kernel
theorem dX4_checkPlace_17 : decode cX4_checkPlace 17 = .ok (.invokespecial 278, 3) := by decide +kernel
theorem dX4_checkPlace_20 : decode cX4_checkPlace 20 = .ok (.athrow, 1) := by decide +kernel
theorem dX4_checkPlace_21 : decode cX4_checkPlace 21 = .ok (.return_, 1) := by decide +kernel
theorem dX4_checkNumber_0 : decode cX4_checkNumber 0 = .ok (.iload_n 0, 1) := by decide +kernel
theorem dX4_checkNumber_1 : decode cX4_checkNumber 1 = .ok (.iconst 1, 1) := by decide +kernel
theorem dX4_checkNumber_2 : decode cX4_checkNumber 2 = .ok (.if_icmp .lt 10, 3) := by decide +kernel
theorem dX4_checkNumber_5 : decode cX4_checkNumber 5 = .ok (.iload_n 0, 1) := by decide +kernel
theorem dX4_checkNumber_6 : decode cX4_checkNumber 6 = .ok (.ldc_w 285, 3) := by decide +kernel
theorem dX4_checkNumber_9 : decode cX4_checkNumber 9 = .ok (.if_icmp .le 14, 3) := by decide +kernel
theorem dX4_checkNumber_12 : decode cX4_checkNumber 12 = .ok (.new 69, 3) := by decide +kernel
theorem dX4_checkNumber_15 : decode cX4_checkNumber 15 = .ok (.dup, 1) := by decide +kernel
theorem dX4_checkNumber_16 : decode cX4_checkNumber 16 = .ok (.ldc_w 286, 3) := by decide +kernel
theorem dX4_checkNumber_19 : decode cX4_checkNumber 19 = .ok (.invokespecial 73, 3) := by decide +kernel
theorem dX4_checkNumber_22 : decode cX4_checkNumber 22 = .ok (.athrow, 1) := by decide +kernel
theorem dX4_checkNumber_23 : decode cX4_checkNumber 23 = .ok (.return_, 1) := by decide +kernel
theorem dX4_checkHue_0 : decode cX4_checkHue 0 = .ok (.iload_n 0, 1) := by decide +kernel
theorem dX4_checkHue_1 : decode cX4_checkHue 1 = .ok (.ifCond .lt 9, 3) := by decide +kernel
theorem dX4_checkHue_4 : decode cX4_checkHue 4 = .ok (.iload_n 0, 1) := by decide +kernel
theorem dX4_checkHue_5 : decode cX4_checkHue 5 = .ok (.bipush 6, 2) := by decide +kernel
theorem dX4_checkHue_7 : decode cX4_checkHue 7 = .ok (.if_icmp .lt 14, 3) := by decide +kernel
theorem dX4_checkHue_10 : decode cX4_checkHue 10 = .ok (.new 69, 3) := by decide +kernel
theorem dX4_checkHue_13 : decode cX4_checkHue 13 = .ok (.dup, 1) := by decide +kernel
theorem dX4_checkHue_14 : decode cX4_checkHue 14 = .ok (.ldc_w 288, 3) := by decide +kernel
theorem dX4_checkHue_17 : decode cX4_checkHue 17 = .ok (.invokespecial 73, 3) := by decide +kernel
theorem dX4_checkHue_20 : decode cX4_checkHue 20 = .ok (.athrow, 1) := by decide +kernel
theorem dX4_checkHue_21 : decode cX4_checkHue 21 = .ok (.return_, 1) := by decide +kernel
theorem dX4_checkSlot_0 : decode cX4_checkSlot 0 = .ok (.iload_n 0, 1) := by decide +kernel
theorem dX4_checkSlot_1 : decode cX4_checkSlot 1 = .ok (.ifCond .lt 8, 3) := by decide +kernel
theorem dX4_checkSlot_4 : decode cX4_checkSlot 4 = .ok (.iload_n 0, 1) := by decide +kernel
theorem dX4_checkSlot_5 : decode cX4_checkSlot 5 = .ok (.iconst 2, 1) := by decide +kernel
theorem dX4_checkSlot_6 : decode cX4_checkSlot 6 = .ok (.if_icmp .lt 14, 3) := by decide +kernel
theorem dX4_checkSlot_9 : decode cX4_checkSlot 9 = .ok (.new 69, 3) := by decide +kernel
theorem dX4_checkSlot_12 : decode cX4_checkSlot 12 = .ok (.dup, 1) := by decide +kernel
theorem dX4_checkSlot_13 : decode cX4_checkSlot 13 = .ok (.ldc_w 290, 3) := by decide +kernel
theorem dX4_checkSlot_16 : decode cX4_checkSlot 16 = .ok (.invokespecial 73, 3) := by decide +kernel
theorem dX4_checkSlot_19 : decode cX4_checkSlot 19 = .ok (.athrow, 1) := by decide +kernel
theorem dX4_checkSlot_20 : decode cX4_checkSlot 20 = .ok (.return_, 1) := by decide +kernel
theorem dX4_readBuffer_0 : decode cX4_readBuffer 0 = .ok (.aload_n 0, 1) := by decide +kernel
theorem dX4_readBuffer_1 : decode cX4_readBuffer 1 = .ok (.getfield 38, 3) := by decide +kernel
theorem dX4_readBuffer_4 : decode cX4_readBuffer 4 = .ok (.invokevirtual 292, 3) := by decide +kernel
theorem dX4_readBuffer_7 : decode cX4_readBuffer 7 = .ok (.iconst 0, 1) := by decide +kernel
theorem dX4_readBuffer_8 : decode cX4_readBuffer 8 = .ok (.istore_n 1, 1) := by decide +kernel
theorem dX4_readBuffer_9 : decode cX4_readBuffer 9 = .ok (.iload_n 1, 1) := by decide +kernel
theorem dX4_readBuffer_10 : decode cX4_readBuffer 10 = .ok (.aload_n 0, 1) := by decide +kernel
theorem dX4_readBuffer_11 : decode cX4_readBuffer 11 = .ok (.getfield 31, 3) := by decide +kernel
theorem dX4_readBuffer_14 : decode cX4_readBuffer 14 = .ok (.if_icmp .ge 27, 3) := by decide +kernel
theorem dX4_readBuffer_17 : decode cX4_readBuffer 17 = .ok (.aload_n 0, 1) := by decide +kernel
theorem dX4_readBuffer_18 : decode cX4_readBuffer 18 = .ok (.getfield 38, 3) := by decide +kernel
theorem dX4_readBuffer_21 : decode cX4_readBuffer 21 = .ok (.aload_n 0, 1) := by decide +kernel
theorem dX4_readBuffer_22 : decode cX4_readBuffer 22 = .ok (.getfield 27, 3) := by decide +kernel
theorem dX4_readBuffer_25 : decode cX4_readBuffer 25 = .ok (.iload_n 1, 1) := by decide +kernel
theorem dX4_readBuffer_26 : decode cX4_readBuffer 26 = .ok (.caload, 1) := by decide +kernel
theorem dX4_readBuffer_27 : decode cX4_readBuffer 27 = .ok (.invokevirtual 295, 3) := by decide +kernel
theorem dX4_readBuffer_30 : decode cX4_readBuffer 30 = .ok (.ifCond .ne 5, 3) := by decide +kernel
theorem dX4_readBuffer_33 : decode cX4_readBuffer 33 = .ok (.iload_n 1, 1) := by decide +kernel
theorem dX4_readBuffer_34 : decode cX4_readBuffer 34 = .ok (.ireturn, 1) := by decide +kernel
theorem dX4_readBuffer_35 : decode cX4_readBuffer 35 = .ok (.iinc 1 1, 3) := by decide +kernel
theorem dX4_readBuffer_38 : decode cX4_readBuffer 38 = .ok (.goto (-29), 3) := by decide +kernel
theorem dX4_readBuffer_41 : decode cX4_readBuffer 41 = .ok (.aload_n 0, 1) := by decide +kernel
theorem dX4_readBuffer_42 : decode cX4_readBuffer 42 = .ok (.getfield 31, 3) := by decide +kernel
theorem dX4_readBuffer_45 : decode cX4_readBuffer 45 = .ok (.ireturn, 1) := by decide +kernel
theorem dX4_doOrders_0 : decode cX4_doOrders 0 = .ok (.iconst 0, 1) := by decide +kernel
theorem dX4_doOrders_1 : decode cX4_doOrders 1 = .ok (.istore_n 1, 1) := by decide +kernel
theorem dX4_doOrders_2 : decode cX4_doOrders 2 = .ok (.aload_n 0, 1) := by decide +kernel
theorem dX4_doOrders_3 : decode cX4_doOrders 3 = .ok (.getfield 38, 3) := by decide +kernel
theorem dX4_doOrders_6 : decode cX4_doOrders 6 = .ok (.invokevirtual 292, 3) := by decide +kernel
theorem dX4_doOrders_9 : decode cX4_doOrders 9 = .ok (.iconst 0, 1) := by decide +kernel
theorem dX4_doOrders_10 : decode cX4_doOrders 10 = .ok (.istore_n 2, 1) := by decide +kernel
theorem dX4_doOrders_11 : decode cX4_doOrders 11 = .ok (.iload_n 2, 1) := by decide +kernel
theorem dX4_doOrders_12 : decode cX4_doOrders 12 = .ok (.aload_n 0, 1) := by decide +kernel
theorem dX4_doOrders_13 : decode cX4_doOrders 13 = .ok (.getfield 31, 3) := by decide +kernel
theorem dX4_doOrders_16 : decode cX4_doOrders 16 = .ok (.if_icmp .gt 62, 3) := by decide +kernel
theorem dX4_doOrders_19 : decode cX4_doOrders 19 = .ok (.iload_n 2, 1) := by decide +kernel
theorem dX4_doOrders_20 : decode cX4_doOrders 20 = .ok (.aload_n 0, 1) := by decide +kernel
theorem dX4_doOrders_21 : decode cX4_doOrders 21 = .ok (.getfield 31, 3) := by decide +kernel
theorem dX4_doOrders_24 : decode cX4_doOrders 24 = .ok (.if_icmp .eq 14, 3) := by decide +kernel
theorem dX4_doOrders_27 : decode cX4_doOrders 27 = .ok (.aload_n 0, 1) := by decide +kernel
theorem dX4_doOrders_28 : decode cX4_doOrders 28 = .ok (.getfield 27, 3) := by decide +kernel
theorem dX4_doOrders_31 : decode cX4_doOrders 31 = .ok (.iload_n 2, 1) := by decide +kernel
theorem dX4_doOrders_32 : decode cX4_doOrders 32 = .ok (.caload, 1) := by decide +kernel
theorem dX4_doOrders_33 : decode cX4_doOrders 33 = .ok (.bipush 59, 2) := by decide +kernel
theorem dX4_doOrders_35 : decode cX4_doOrders 35 = .ok (.if_icmp .ne 15, 3) := by decide +kernel
theorem dX4_doOrders_38 : decode cX4_doOrders 38 = .ok (.aload_n 0, 1) := by decide +kernel
theorem dX4_doOrders_39 : decode cX4_doOrders 39 = .ok (.invokevirtual 299, 3) := by decide +kernel
theorem dX4_doOrders_42 : decode cX4_doOrders 42 = .ok (.ifCond .ne 5, 3) := by decide +kernel
theorem dX4_doOrders_45 : decode cX4_doOrders 45 = .ok (.iload_n 1, 1) := by decide +kernel
theorem dX4_doOrders_46 : decode cX4_doOrders 46 = .ok (.ireturn, 1) := by decide +kernel
theorem dX4_doOrders_47 : decode cX4_doOrders 47 = .ok (.iinc 1 1, 3) := by decide +kernel
theorem dX4_doOrders_50 : decode cX4_doOrders 50 = .ok (.iload_n 2, 1) := by decide +kernel
theorem dX4_doOrders_51 : decode cX4_doOrders 51 = .ok (.aload_n 0, 1) := by decide +kernel
theorem dX4_doOrders_52 : decode cX4_doOrders 52 = .ok (.getfield 31, 3) := by decide +kernel
theorem dX4_doOrders_55 : decode cX4_doOrders 55 = .ok (.if_icmp .ge 17, 3) := by decide +kernel
theorem dX4_doOrders_58 : decode cX4_doOrders 58 = .ok (.aload_n 0, 1) := by decide +kernel
theorem dX4_doOrders_59 : decode cX4_doOrders 59 = .ok (.getfield 38, 3) := by decide +kernel
theorem dX4_doOrders_62 : decode cX4_doOrders 62 = .ok (.aload_n 0, 1) := by decide +kernel
theorem dX4_doOrders_63 : decode cX4_doOrders 63 = .ok (.getfield 27, 3) := by decide +kernel
theorem dX4_doOrders_66 : decode cX4_doOrders 66 = .ok (.iload_n 2, 1) := by decide +kernel
theorem dX4_doOrders_67 : decode cX4_doOrders 67 = .ok (.caload, 1) := by decide +kernel
theorem dX4_doOrders_68 : decode cX4_doOrders 68 = .ok (.invokevirtual 295, 3) := by decide +kernel
theorem dX4_doOrders_71 : decode cX4_doOrders 71 = .ok (.pop, 1) := by decide +kernel
theorem dX4_doOrders_72 : decode cX4_doOrders 72 = .ok (.iinc 2 1, 3) := by decide +kernel
theorem dX4_doOrders_75 : decode cX4_doOrders 75 = .ok (.goto (-64), 3) := by decide +kernel
theorem dX4_doOrders_78 : decode cX4_doOrders 78 = .ok (.iload_n 1, 1) := by decide +kernel
theorem dX4_doOrders_79 : decode cX4_doOrders 79 = .ok (.ireturn, 1) := by decide +kernel
theorem dX4_doOrderRead_0 : decode cX4_doOrderRead 0 = .ok (.aload_n 0, 1) := by decide +kernel
theorem dX4_doOrderRead_1 : decode cX4_doOrderRead 1 = .ok (.getfield 10, 3) := by decide +kernel
theorem dX4_doOrderRead_4 : decode cX4_doOrderRead 4 = .ok (.getfield 200, 3) := by decide +kernel
theorem dX4_doOrderRead_7 : decode cX4_doOrderRead 7 = .ok (.istore_n 1, 1) := by decide +kernel
theorem dX4_doOrderRead_8 : decode cX4_doOrderRead 8 = .ok (.aload_n 0, 1) := by decide +kernel
theorem dX4_doOrderRead_9 : decode cX4_doOrderRead 9 = .ok (.getfield 10, 3) := by decide +kernel
theorem dX4_doOrderRead_12 : decode cX4_doOrderRead 12 = .ok (.getfield 279, 3) := by decide +kernel
theorem dX4_doOrderRead_15 : decode cX4_doOrderRead 15 = .ok (.aload_n 0, 1) := by decide +kernel
theorem dX4_doOrderRead_16 : decode cX4_doOrderRead 16 = .ok (.getfield 38, 3) := by decide +kernel
theorem dX4_doOrderRead_19 : decode cX4_doOrderRead 19 = .ok (.getfield 302, 3) := by decide +kernel
theorem dX4_doOrderRead_22 : decode cX4_doOrderRead 22 = .ok (.aaload, 1) := by decide +kernel
theorem dX4_doOrderRead_23 : decode cX4_doOrderRead 23 = .ok (.astore_n 2, 1) := by decide +kernel
theorem dX4_doOrderRead_24 : decode cX4_doOrderRead 24 = .ok (.aload_n 0, 1) := by decide +kernel
theorem dX4_doOrderRead_25 : decode cX4_doOrderRead 25 = .ok (.getfield 38, 3) := by decide +kernel
theorem dX4_doOrderRead_28 : decode cX4_doOrderRead 28 = .ok (.getfield 305, 3) := by decide +kernel
theorem dX4_doOrderRead_31 : decode cX4_doOrderRead 31 = .ok (.bipush 43, 2) := by decide +kernel
theorem dX4_doOrderRead_33 : decode cX4_doOrderRead 33 = .ok (.if_icmp .ne 22, 3) := by decide +kernel
theorem dX4_doOrderRead_36 : decode cX4_doOrderRead 36 = .ok (.aload_n 0, 1) := by decide +kernel
theorem dX4_doOrderRead_37 : decode cX4_doOrderRead 37 = .ok (.getfield 10, 3) := by decide +kernel
theorem dX4_doOrderRead_40 : decode cX4_doOrderRead 40 = .ok (.aload_n 2, 1) := by decide +kernel
theorem dX4_doOrderRead_41 : decode cX4_doOrderRead 41 = .ok (.aload_n 0, 1) := by decide +kernel
theorem dX4_doOrderRead_42 : decode cX4_doOrderRead 42 = .ok (.getfield 38, 3) := by decide +kernel
theorem dX4_doOrderRead_45 : decode cX4_doOrderRead 45 = .ok (.getfield 309, 3) := by decide +kernel
theorem dX4_doOrderRead_48 : decode cX4_doOrderRead 48 = .ok (.invokevirtual 65, 3) := by decide +kernel
theorem dX4_doOrderRead_51 : decode cX4_doOrderRead 51 = .ok (.pop, 1) := by decide +kernel
theorem dX4_doOrderRead_52 : decode cX4_doOrderRead 52 = .ok (.goto 58, 3) := by decide +kernel
theorem dX4_doOrderRead_55 : decode cX4_doOrderRead 55 = .ok (.aload_n 0, 1) := by decide +kernel
theorem dX4_doOrderRead_56 : decode cX4_doOrderRead 56 = .ok (.getfield 38, 3) := by decide +kernel
theorem dX4_doOrderRead_59 : decode cX4_doOrderRead 59 = .ok (.getfield 305, 3) := by decide +kernel
theorem dX4_doOrderRead_62 : decode cX4_doOrderRead 62 = .ok (.bipush 62, 2) := by decide +kernel
theorem dX4_doOrderRead_64 : decode cX4_doOrderRead 64 = .ok (.if_icmp .ne 30, 3) := by decide +kernel
theorem dX4_doOrderRead_67 : decode cX4_doOrderRead 67 = .ok (.aload_n 0, 1) := by decide +kernel
theorem dX4_doOrderRead_68 : decode cX4_doOrderRead 68 = .ok (.getfield 10, 3) := by decide +kernel
theorem dX4_doOrderRead_71 : decode cX4_doOrderRead 71 = .ok (.aload_n 2, 1) := by decide +kernel
theorem dX4_doOrderRead_72 : decode cX4_doOrderRead 72 = .ok (.aload_n 0, 1) := by decide +kernel
theorem dX4_doOrderRead_73 : decode cX4_doOrderRead 73 = .ok (.getfield 10, 3) := by decide +kernel
theorem dX4_doOrderRead_76 : decode cX4_doOrderRead 76 = .ok (.getfield 279, 3) := by decide +kernel
theorem dX4_doOrderRead_79 : decode cX4_doOrderRead 79 = .ok (.aload_n 0, 1) := by decide +kernel
theorem dX4_doOrderRead_80 : decode cX4_doOrderRead 80 = .ok (.getfield 38, 3) := by decide +kernel
theorem dX4_doOrderRead_83 : decode cX4_doOrderRead 83 = .ok (.getfield 309, 3) := by decide +kernel
theorem dX4_doOrderRead_86 : decode cX4_doOrderRead 86 = .ok (.aaload, 1) := by decide +kernel
theorem dX4_doOrderRead_87 : decode cX4_doOrderRead 87 = .ok (.invokevirtual 76, 3) := by decide +kernel
theorem dX4_doOrderRead_90 : decode cX4_doOrderRead 90 = .ok (.pop, 1) := by decide +kernel
theorem dX4_doOrderRead_91 : decode cX4_doOrderRead 91 = .ok (.goto 19, 3) := by decide +kernel
theorem dX4_doOrderRead_94 : decode cX4_doOrderRead 94 = .ok (.aload_n 0, 1) := by decide +kernel
theorem dX4_doOrderRead_95 : decode cX4_doOrderRead 95 = .ok (.getfield 10, 3) := by decide +kernel
theorem dX4_doOrderRead_98 : decode cX4_doOrderRead 98 = .ok (.aload_n 2, 1) := by decide +kernel
theorem dX4_doOrderRead_99 : decode cX4_doOrderRead 99 = .ok (.aload_n 0, 1) := by decide +kernel
theorem dX4_doOrderRead_100 : decode cX4_doOrderRead 100 = .ok (.getfield 38, 3) := by decide +kernel
theorem dX4_doOrderRead_103 : decode cX4_doOrderRead 103 = .ok (.getfield 309, 3) := by decide +kernel
theorem dX4_doOrderRead_106 : decode cX4_doOrderRead 106 = .ok (.invokevirtual 83, 3) := by decide +kernel
theorem dX4_doOrderRead_109 : decode cX4_doOrderRead 109 = .ok (.pop, 1) := by decide +kernel
theorem dX4_doOrderRead_110 : decode cX4_doOrderRead 110 = .ok (.aload_n 0, 1) := by decide +kernel
theorem dX4_doOrderRead_111 : decode cX4_doOrderRead 111 = .ok (.getfield 10, 3) := by decide +kernel
theorem dX4_doOrderRead_114 : decode cX4_doOrderRead 114 = .ok (.getfield 200, 3) := by decide +kernel
theorem dX4_doOrderRead_117 : decode cX4_doOrderRead 117 = .ok (.iload_n 1, 1) := by decide +kernel
theorem dX4_doOrderRead_118 : decode cX4_doOrderRead 118 = .ok (.if_icmp .ne 7, 3) := by decide +kernel
theorem dX4_doOrderRead_121 : decode cX4_doOrderRead 121 = .ok (.iconst 1, 1) := by decide +kernel
theorem dX4_doOrderRead_122 : decode cX4_doOrderRead 122 = .ok (.goto 4, 3) := by decide +kernel
theorem dX4_doOrderRead_125 : decode cX4_doOrderRead 125 = .ok (.iconst 0, 1) := by decide +kernel
theorem dX4_doOrderRead_126 : decode cX4_doOrderRead 126 = .ok (.ireturn, 1) := by decide +kernel
theorem dX4_bestOfAllSets_0 : decode cX4_bestOfAllSets 0 = .ok (.iconst (-1), 1) := by decide +kernel
theorem dX4_bestOfAllSets_1 : decode cX4_bestOfAllSets 1 = .ok (.istore_n 2, 1) := by decide +kernel
theorem dX4_bestOfAllSets_2 : decode cX4_bestOfAllSets 2 = .ok (.iconst 1, 1) := by decide +kernel
theorem dX4_bestOfAllSets_3 : decode cX4_bestOfAllSets 3 = .ok (.istore_n 3, 1) := by decide +kernel
theorem dX4_bestOfAllSets_4 : decode cX4_bestOfAllSets 4 = .ok (.iload_n 3, 1) := by decide +kernel
theorem dX4_bestOfAllSets_5 : decode cX4_bestOfAllSets 5 = .ok (.sipush 128, 3) := by decide +kernel
theorem dX4_bestOfAllSets_8 : decode cX4_bestOfAllSets 8 = .ok (.if_icmp .ge 24, 3) := by decide +kernel
theorem dX4_bestOfAllSets_11 : decode cX4_bestOfAllSets 11 = .ok (.aload_n 0, 1) := by decide +kernel
theorem dX4_bestOfAllSets_12 : decode cX4_bestOfAllSets 12 = .ok (.iload_n 3, 1) := by decide +kernel
theorem dX4_bestOfAllSets_13 : decode cX4_bestOfAllSets 13 = .ok (.invokestatic 312, 3) := by decide +kernel
theorem dX4_bestOfAllSets_16 : decode cX4_bestOfAllSets 16 = .ok (.iload_n 1, 1) := by decide +kernel
theorem dX4_bestOfAllSets_17 : decode cX4_bestOfAllSets 17 = .ok (.if_icmp .ne 9, 3) := by decide +kernel
theorem dX4_bestOfAllSets_20 : decode cX4_bestOfAllSets 20 = .ok (.iload_n 3, 1) := by decide +kernel
theorem dX4_bestOfAllSets_21 : decode cX4_bestOfAllSets 21 = .ok (.iload_n 2, 1) := by decide +kernel
theorem dX4_bestOfAllSets_22 : decode cX4_bestOfAllSets 22 = .ok (.invokestatic 315, 3) := by decide +kernel
theorem dX4_bestOfAllSets_25 : decode cX4_bestOfAllSets 25 = .ok (.istore_n 2, 1) := by decide +kernel
theorem dX4_bestOfAllSets_26 : decode cX4_bestOfAllSets 26 = .ok (.iinc 3 1, 3) := by decide +kernel
theorem dX4_bestOfAllSets_29 : decode cX4_bestOfAllSets 29 = .ok (.goto (-25), 3) := by decide +kernel
theorem dX4_bestOfAllSets_32 : decode cX4_bestOfAllSets 32 = .ok (.iload_n 2, 1) := by decide +kernel
theorem dX4_bestOfAllSets_33 : decode cX4_bestOfAllSets 33 = .ok (.ireturn, 1) := by decide +kernel
theorem dX4_toldBySet_0 : decode cX4_toldBySet 0 = .ok (.iconst 0, 1) := by decide +kernel
theorem dX4_toldBySet_1 : decode cX4_toldBySet 1 = .ok (.istore_n 2, 1) := by decide +kernel
theorem dX4_toldBySet_2 : decode cX4_toldBySet 2 = .ok (.iconst 0, 1) := by decide +kernel
theorem dX4_toldBySet_3 : decode cX4_toldBySet 3 = .ok (.istore_n 3, 1) := by decide +kernel
theorem dX4_toldBySet_4 : decode cX4_toldBySet 4 = .ok (.iload_n 3, 1) := by decide +kernel
theorem dX4_toldBySet_5 : decode cX4_toldBySet 5 = .ok (.bipush 7, 2) := by decide +kernel
theorem dX4_toldBySet_7 : decode cX4_toldBySet 7 = .ok (.if_icmp .ge 24, 3) := by decide +kernel
theorem dX4_toldBySet_10 : decode cX4_toldBySet 10 = .ok (.iload_n 1, 1) := by decide +kernel
theorem dX4_toldBySet_11 : decode cX4_toldBySet 11 = .ok (.iload_n 3, 1) := by decide +kernel
theorem dX4_toldBySet_12 : decode cX4_toldBySet 12 = .ok (.ishr, 1) := by decide +kernel
theorem dX4_toldBySet_13 : decode cX4_toldBySet 13 = .ok (.iconst 1, 1) := by decide +kernel
theorem dX4_toldBySet_14 : decode cX4_toldBySet 14 = .ok (.iand, 1) := by decide +kernel
theorem dX4_toldBySet_15 : decode cX4_toldBySet 15 = .ok (.iconst 1, 1) := by decide +kernel
theorem dX4_toldBySet_16 : decode cX4_toldBySet 16 = .ok (.if_icmp .ne 9, 3) := by decide +kernel
theorem dX4_toldBySet_19 : decode cX4_toldBySet 19 = .ok (.iload_n 2, 1) := by decide +kernel
theorem dX4_toldBySet_20 : decode cX4_toldBySet 20 = .ok (.aload_n 0, 1) := by decide +kernel
theorem dX4_toldBySet_21 : decode cX4_toldBySet 21 = .ok (.iload_n 3, 1) := by decide +kernel
theorem dX4_toldBySet_22 : decode cX4_toldBySet 22 = .ok (.iaload, 1) := by decide +kernel
theorem dX4_toldBySet_23 : decode cX4_toldBySet 23 = .ok (.iadd, 1) := by decide +kernel
theorem dX4_toldBySet_24 : decode cX4_toldBySet 24 = .ok (.istore_n 2, 1) := by decide +kernel
theorem dX4_toldBySet_25 : decode cX4_toldBySet 25 = .ok (.iinc 3 1, 3) := by decide +kernel
theorem dX4_toldBySet_28 : decode cX4_toldBySet 28 = .ok (.goto (-24), 3) := by decide +kernel
theorem dX4_toldBySet_31 : decode cX4_toldBySet 31 = .ok (.iload_n 2, 1) := by decide +kernel
theorem dX4_toldBySet_32 : decode cX4_toldBySet 32 = .ok (.ireturn, 1) := by decide +kernel
theorem dX4_bestByTrying_0 : decode cX4_bestByTrying 0 = .ok (.iload_n 2, 1) := by decide +kernel
theorem dX4_bestByTrying_1 : decode cX4_bestByTrying 1 = .ok (.ifCond .ne 10, 3) := by decide +kernel
theorem dX4_bestByTrying_4 : decode cX4_bestByTrying 4 = .ok (.iload_n 3, 1) := by decide +kernel
theorem dX4_bestByTrying_5 : decode cX4_bestByTrying 5 = .ok (.iload 4, 2) := by decide +kernel
theorem dX4_bestByTrying_7 : decode cX4_bestByTrying 7 = .ok (.invokestatic 315, 3) := by decide +kernel
theorem dX4_bestByTrying_10 : decode cX4_bestByTrying 10 = .ok (.ireturn, 1) := by decide +kernel
theorem dX4_bestByTrying_11 : decode cX4_bestByTrying 11 = .ok (.iload_n 2, 1) := by decide +kernel
theorem dX4_bestByTrying_12 : decode cX4_bestByTrying 12 = .ok (.ifCond .lt 9, 3) := by decide +kernel
theorem dX4_bestByTrying_15 : decode cX4_bestByTrying 15 = .ok (.iload_n 1, 1) := by decide +kernel
theorem dX4_bestByTrying_16 : decode cX4_bestByTrying 16 = .ok (.bipush 7, 2) := by decide +kernel
theorem dX4_bestByTrying_18 : decode cX4_bestByTrying 18 = .ok (.if_icmp .lt 6, 3) := by decide +kernel
theorem dX4_bestByTrying_21 : decode cX4_bestByTrying 21 = .ok (.iload 4, 2) := by decide +kernel
theorem dX4_bestByTrying_23 : decode cX4_bestByTrying 23 = .ok (.ireturn, 1) := by decide +kernel
theorem dX4_bestByTrying_24 : decode cX4_bestByTrying 24 = .ok (.aload_n 0, 1) := by decide +kernel
theorem dX4_bestByTrying_25 : decode cX4_bestByTrying 25 = .ok (.iload_n 1, 1) := by decide +kernel
theorem dX4_bestByTrying_26 : decode cX4_bestByTrying 26 = .ok (.iconst 1, 1) := by decide +kernel
theorem dX4_bestByTrying_27 : decode cX4_bestByTrying 27 = .ok (.iadd, 1) := by decide +kernel
theorem dX4_bestByTrying_28 : decode cX4_bestByTrying 28 = .ok (.iload_n 2, 1) := by decide +kernel
theorem dX4_bestByTrying_29 : decode cX4_bestByTrying 29 = .ok (.aload_n 0, 1) := by decide +kernel
theorem dX4_bestByTrying_30 : decode cX4_bestByTrying 30 = .ok (.iload_n 1, 1) := by decide +kernel
theorem dX4_bestByTrying_31 : decode cX4_bestByTrying 31 = .ok (.iaload, 1) := by decide +kernel
theorem dX4_bestByTrying_32 : decode cX4_bestByTrying 32 = .ok (.isub, 1) := by decide +kernel
theorem dX4_bestByTrying_33 : decode cX4_bestByTrying 33 = .ok (.iload_n 3, 1) := by decide +kernel
theorem dX4_bestByTrying_34 : decode cX4_bestByTrying 34 = .ok (.iconst 1, 1) := by decide +kernel
theorem dX4_bestByTrying_35 : decode cX4_bestByTrying 35 = .ok (.iload_n 1, 1) := by decide +kernel
theorem dX4_bestByTrying_36 : decode cX4_bestByTrying 36 = .ok (.ishl, 1) := by decide +kernel
theorem dX4_bestByTrying_37 : decode cX4_bestByTrying 37 = .ok (.ior, 1) := by decide +kernel
theorem dX4_bestByTrying_38 : decode cX4_bestByTrying 38 = .ok (.iload 4, 2) := by decide +kernel
theorem dX4_bestByTrying_40 : decode cX4_bestByTrying 40 = .ok (.invokestatic 233, 3) := by decide +kernel
theorem dX4_bestByTrying_43 : decode cX4_bestByTrying 43 = .ok (.istore 5, 2) := by decide +kernel
theorem dX4_bestByTrying_45 : decode cX4_bestByTrying 45 = .ok (.aload_n 0, 1) := by decide +kernel
theorem dX4_bestByTrying_46 : decode cX4_bestByTrying 46 = .ok (.iload_n 1, 1) := by decide +kernel
theorem dX4_bestByTrying_47 : decode cX4_bestByTrying 47 = .ok (.iconst 1, 1) := by decide +kernel
theorem dX4_bestByTrying_48 : decode cX4_bestByTrying 48 = .ok (.iadd, 1) := by decide +kernel
theorem dX4_bestByTrying_49 : decode cX4_bestByTrying 49 = .ok (.iload_n 2, 1) := by decide +kernel
theorem dX4_bestByTrying_50 : decode cX4_bestByTrying 50 = .ok (.iload_n 3, 1) := by decide +kernel
theorem dX4_bestByTrying_51 : decode cX4_bestByTrying 51 = .ok (.iload 5, 2) := by decide +kernel
theorem dX4_bestByTrying_53 : decode cX4_bestByTrying 53 = .ok (.invokestatic 233, 3) := by decide +kernel
theorem dX4_bestByTrying_56 : decode cX4_bestByTrying 56 = .ok (.ireturn, 1) := by decide +kernel
theorem dX4_better_0 : decode cX4_better 0 = .ok (.iload_n 1, 1) := by decide +kernel
theorem dX4_better_1 : decode cX4_better 1 = .ok (.iconst (-1), 1) := by decide +kernel
theorem dX4_better_2 : decode cX4_better 2 = .ok (.if_icmp .ne 5, 3) := by decide +kernel
theorem dX4_better_5 : decode cX4_better 5 = .ok (.iload_n 0, 1) := by decide +kernel
theorem dX4_better_6 : decode cX4_better 6 = .ok (.ireturn, 1) := by decide +kernel
theorem dX4_better_7 : decode cX4_better 7 = .ok (.iload_n 0, 1) := by decide +kernel
theorem dX4_better_8 : decode cX4_better 8 = .ok (.invokestatic 318, 3) := by decide +kernel
theorem dX4_better_11 : decode cX4_better 11 = .ok (.iload_n 1, 1) := by decide +kernel
theorem dX4_better_12 : decode cX4_better 12 = .ok (.invokestatic 318, 3) := by decide +kernel
theorem dX4_better_15 : decode cX4_better 15 = .ok (.invokestatic 323, 3) := by decide +kernel
theorem dX4_better_18 : decode cX4_better 18 = .ok (.istore_n 2, 1) := by decide +kernel
theorem dX4_better_19 : decode cX4_better 19 = .ok (.iload_n 2, 1) := by decide +kernel
theorem dX4_better_20 : decode cX4_better 20 = .ok (.ifCond .lt 12, 3) := by decide +kernel
theorem dX4_better_23 : decode cX4_better 23 = .ok (.iload_n 2, 1) := by decide +kernel
theorem dX4_better_24 : decode cX4_better 24 = .ok (.ifCond .ne 12, 3) := by decide +kernel
theorem dX4_better_27 : decode cX4_better 27 = .ok (.iload_n 0, 1) := by decide +kernel
theorem dX4_better_28 : decode cX4_better 28 = .ok (.iload_n 1, 1) := by decide +kernel
theorem dX4_better_29 : decode cX4_better 29 = .ok (.if_icmp .ge 7, 3) := by decide +kernel
theorem dX4_better_32 : decode cX4_better 32 = .ok (.iload_n 0, 1) := by decide +kernel
theorem dX4_better_33 : decode cX4_better 33 = .ok (.goto 4, 3) := by decide +kernel
theorem dX4_better_36 : decode cX4_better 36 = .ok (.iload_n 1, 1) := by decide +kernel
theorem dX4_better_37 : decode cX4_better 37 = .ok (.ireturn, 1) := by decide +kernel
theorem dX4_mixCord_0 : decode cX4_mixCord 0 = .ok (.lload_n 1, 1) := by decide +kernel
theorem dX4_mixCord_1 : decode cX4_mixCord 1 = .ok (.lstore 4, 2) := by decide +kernel
theorem dX4_mixCord_3 : decode cX4_mixCord 3 = .ok (.iconst 0, 1) := by decide +kernel
theorem dX4_mixCord_4 : decode cX4_mixCord 4 = .ok (.istore 6, 2) := by decide +kernel
theorem dX4_mixCord_6 : decode cX4_mixCord 6 = .ok (.iload 6, 2) := by decide +kernel
theorem dX4_mixCord_8 : decode cX4_mixCord 8 = .ok (.bipush 7, 2) := by decide +kernel
theorem dX4_mixCord_10 : decode cX4_mixCord 10 = .ok (.if_icmp .gt 24, 3) := by decide +kernel
theorem dX4_mixCord_13 : decode cX4_mixCord 13 = .ok (.lload 4, 2) := by decide +kernel
theorem dX4_mixCord_15 : decode cX4_mixCord 15 = .ok (.aload_n 0, 1) := by decide +kernel
theorem dX4_mixCord_16 : decode cX4_mixCord 16 = .ok (.iload_n 3, 1) := by decide +kernel
theorem dX4_mixCord_17 : decode cX4_mixCord 17 = .ok (.iload 6, 2) := by decide +kernel
theorem dX4_mixCord_19 : decode cX4_mixCord 19 = .ok (.invokevirtual 326, 3) := by decide +kernel
theorem dX4_mixCord_22 : decode cX4_mixCord 22 = .ok (.i2l, 1) := by decide +kernel
theorem dX4_mixCord_23 : decode cX4_mixCord 23 = .ok (.invokestatic 249, 3) := by decide +kernel
theorem dX4_mixCord_26 : decode cX4_mixCord 26 = .ok (.lstore 4, 2) := by decide +kernel
theorem dX4_mixCord_28 : decode cX4_mixCord 28 = .ok (.iinc 6 1, 3) := by decide +kernel
theorem dX4_mixCord_31 : decode cX4_mixCord 31 = .ok (.goto (-25), 3) := by decide +kernel
theorem dX4_mixCord_34 : decode cX4_mixCord 34 = .ok (.iconst 0, 1) := by decide +kernel
theorem dX4_mixCord_35 : decode cX4_mixCord 35 = .ok (.istore 6, 2) := by decide +kernel
theorem dX4_mixCord_37 : decode cX4_mixCord 37 = .ok (.iload 6, 2) := by decide +kernel
theorem dX4_mixCord_39 : decode cX4_mixCord 39 = .ok (.bipush 6, 2) := by decide +kernel
theorem dX4_mixCord_41 : decode cX4_mixCord 41 = .ok (.if_icmp .ge 41, 3) := by decide +kernel
theorem dX4_mixCord_44 : decode cX4_mixCord 44 = .ok (.iconst 0, 1) := by decide +kernel
theorem dX4_mixCord_45 : decode cX4_mixCord 45 = .ok (.istore 7, 2) := by decide +kernel
theorem dX4_mixCord_47 : decode cX4_mixCord 47 = .ok (.iload 7, 2) := by decide +kernel
theorem dX4_mixCord_49 : decode cX4_mixCord 49 = .ok (.iconst 3, 1) := by decide +kernel
theorem dX4_mixCord_50 : decode cX4_mixCord 50 = .ok (.if_icmp .gt 26, 3) := by decide +kernel
theorem dX4_mixCord_53 : decode cX4_mixCord 53 = .ok (.lload 4, 2) := by decide +kernel
theorem dX4_mixCord_55 : decode cX4_mixCord 55 = .ok (.aload_n 0, 1) := by decide +kernel
theorem dX4_mixCord_56 : decode cX4_mixCord 56 = .ok (.iload_n 3, 1) := by decide +kernel
theorem dX4_mixCord_57 : decode cX4_mixCord 57 = .ok (.iload 6, 2) := by decide +kernel
theorem dX4_mixCord_59 : decode cX4_mixCord 59 = .ok (.iload 7, 2) := by decide +kernel
theorem dX4_mixCord_61 : decode cX4_mixCord 61 = .ok (.invokevirtual 329, 3) := by decide +kernel
theorem dX4_mixCord_64 : decode cX4_mixCord 64 = .ok (.i2l, 1) := by decide +kernel
theorem dX4_mixCord_65 : decode cX4_mixCord 65 = .ok (.invokestatic 249, 3) := by decide +kernel
theorem dX4_mixCord_68 : decode cX4_mixCord 68 = .ok (.lstore 4, 2) := by decide +kernel
theorem dX4_mixCord_70 : decode cX4_mixCord 70 = .ok (.iinc 7 1, 3) := by decide +kernel
theorem dX4_mixCord_73 : decode cX4_mixCord 73 = .ok (.goto (-26), 3) := by decide +kernel
theorem dX4_mixCord_76 : decode cX4_mixCord 76 = .ok (.iinc 6 1, 3) := by decide +kernel
theorem dX4_mixCord_79 : decode cX4_mixCord 79 = .ok (.goto (-42), 3) := by decide +kernel
theorem dX4_mixCord_82 : decode cX4_mixCord 82 = .ok (.aload_n 0, 1) := by decide +kernel
theorem dX4_mixCord_83 : decode cX4_mixCord 83 = .ok (.iload_n 3, 1) := by decide +kernel
theorem dX4_mixCord_84 : decode cX4_mixCord 84 = .ok (.iconst 2, 1) := by decide +kernel
theorem dX4_mixCord_85 : decode cX4_mixCord 85 = .ok (.invokevirtual 326, 3) := by decide +kernel
theorem dX4_mixCord_88 : decode cX4_mixCord 88 = .ok (.istore 6, 2) := by decide +kernel
theorem dX4_mixCord_90 : decode cX4_mixCord 90 = .ok (.iconst 0, 1) := by decide +kernel
theorem dX4_mixCord_91 : decode cX4_mixCord 91 = .ok (.istore 7, 2) := by decide +kernel
theorem dX4_mixCord_93 : decode cX4_mixCord 93 = .ok (.iload 7, 2) := by decide +kernel
theorem dX4_mixCord_95 : decode cX4_mixCord 95 = .ok (.iload 6, 2) := by decide +kernel
theorem dX4_mixCord_97 : decode cX4_mixCord 97 = .ok (.if_icmp .ge 24, 3) := by decide +kernel
theorem dX4_mixCord_100 : decode cX4_mixCord 100 = .ok (.lload 4, 2) := by decide +kernel
theorem dX4_mixCord_102 : decode cX4_mixCord 102 = .ok (.aload_n 0, 1) := by decide +kernel
theorem dX4_mixCord_103 : decode cX4_mixCord 103 = .ok (.iload_n 3, 1) := by decide +kernel
theorem dX4_mixCord_104 : decode cX4_mixCord 104 = .ok (.iload 7, 2) := by decide +kernel
theorem dX4_mixCord_106 : decode cX4_mixCord 106 = .ok (.invokevirtual 333, 3) := by decide +kernel
theorem dX4_mixCord_109 : decode cX4_mixCord 109 = .ok (.i2l, 1) := by decide +kernel
theorem dX4_mixCord_110 : decode cX4_mixCord 110 = .ok (.invokestatic 249, 3) := by decide +kernel
theorem dX4_mixCord_113 : decode cX4_mixCord 113 = .ok (.lstore 4, 2) := by decide +kernel
theorem dX4_mixCord_115 : decode cX4_mixCord 115 = .ok (.iinc 7 1, 3) := by decide +kernel
theorem dX4_mixCord_118 : decode cX4_mixCord 118 = .ok (.goto (-25), 3) := by decide +kernel
theorem dX4_mixCord_121 : decode cX4_mixCord 121 = .ok (.lload 4, 2) := by decide +kernel
theorem dX4_mixCord_123 : decode cX4_mixCord 123 = .ok (.aload_n 0, 1) := by decide +kernel
theorem dX4_mixCord_124 : decode cX4_mixCord 124 = .ok (.iload_n 3, 1) := by decide +kernel
theorem dX4_mixCord_125 : decode cX4_mixCord 125 = .ok (.sipush 999, 3) := by decide +kernel
theorem dX4_mixCord_128 : decode cX4_mixCord 128 = .ok (.invokevirtual 336, 3) := by decide +kernel
theorem dX4_mixCord_131 : decode cX4_mixCord 131 = .ok (.i2l, 1) := by decide +kernel
theorem dX4_mixCord_132 : decode cX4_mixCord 132 = .ok (.invokestatic 249, 3) := by decide +kernel
theorem dX4_mixCord_135 : decode cX4_mixCord 135 = .ok (.lstore 4, 2) := by decide +kernel
theorem dX4_mixCord_137 : decode cX4_mixCord 137 = .ok (.lload 4, 2) := by decide +kernel
theorem dX4_mixCord_139 : decode cX4_mixCord 139 = .ok (.aload_n 0, 1) := by decide +kernel
theorem dX4_mixCord_140 : decode cX4_mixCord 140 = .ok (.iload_n 3, 1) := by decide +kernel
theorem dX4_mixCord_141 : decode cX4_mixCord 141 = .ok (.bipush 95, 2) := by decide +kernel
theorem dX4_mixCord_143 : decode cX4_mixCord 143 = .ok (.invokevirtual 339, 3) := by decide +kernel
theorem dX4_mixCord_146 : decode cX4_mixCord 146 = .ok (.i2l, 1) := by decide +kernel
theorem dX4_mixCord_147 : decode cX4_mixCord 147 = .ok (.invokestatic 249, 3) := by decide +kernel
theorem dX4_mixCord_150 : decode cX4_mixCord 150 = .ok (.lreturn, 1) := by decide +kernel
theorem dX4_mix_0 : decode cX4_mix 0 = .ok (.ldc2_w 342, 3) := by decide +kernel
theorem dX4_mix_3 : decode cX4_mix 3 = .ok (.lload_n 0, 1) := by decide +kernel
theorem dX4_mix_4 : decode cX4_mix 4 = .ok (.lmul, 1) := by decide +kernel
theorem dX4_mix_5 : decode cX4_mix 5 = .ok (.lload_n 2, 1) := by decide +kernel
theorem dX4_mix_6 : decode cX4_mix 6 = .ok (.ladd, 1) := by decide +kernel
theorem dX4_mix_7 : decode cX4_mix 7 = .ok (.lreturn, 1) := by decide +kernel
theorem dX4_bitsOfShare_0 : decode cX4_bitsOfShare 0 = .ok (.dload_n 0, 1) := by decide +kernel
theorem dX4_bitsOfShare_1 : decode cX4_bitsOfShare 1 = .ok (.dconst 0, 1) := by decide +kernel
theorem dX4_bitsOfShare_2 : decode cX4_bitsOfShare 2 = .ok (.dcmp .g, 1) := by decide +kernel
theorem dX4_bitsOfShare_3 : decode cX4_bitsOfShare 3 = .ok (.ifCond .gt 5, 3) := by decide +kernel
theorem dX4_bitsOfShare_6 : decode cX4_bitsOfShare 6 = .ok (.lconst 0, 1) := by decide +kernel
theorem dX4_bitsOfShare_7 : decode cX4_bitsOfShare 7 = .ok (.lreturn, 1) := by decide +kernel
theorem dX4_bitsOfShare_8 : decode cX4_bitsOfShare 8 = .ok (.dload_n 0, 1) := by decide +kernel
theorem dX4_bitsOfShare_9 : decode cX4_bitsOfShare 9 = .ok (.dstore_n 2, 1) := by decide +kernel
theorem dX4_bitsOfShare_10 : decode cX4_bitsOfShare 10 = .ok (.ldc2_w 344, 3) := by decide +kernel
theorem dX4_bitsOfShare_13 : decode cX4_bitsOfShare 13 = .ok (.lstore 4, 2) := by decide +kernel
theorem dX4_bitsOfShare_15 : decode cX4_bitsOfShare 15 = .ok (.dload_n 2, 1) := by decide +kernel
theorem dX4_bitsOfShare_16 : decode cX4_bitsOfShare 16 = .ok (.dconst 1, 1) := by decide +kernel
theorem dX4_bitsOfShare_17 : decode cX4_bitsOfShare 17 = .ok (.dcmp .g, 1) := by decide +kernel
theorem dX4_bitsOfShare_18 : decode cX4_bitsOfShare 18 = .ok (.ifCond .ge 25, 3) := by decide +kernel
theorem dX4_bitsOfShare_21 : decode cX4_bitsOfShare 21 = .ok (.lload 4, 2) := by decide +kernel
theorem dX4_bitsOfShare_23 : decode cX4_bitsOfShare 23 = .ok (.lconst 1, 1) := by decide +kernel
theorem dX4_bitsOfShare_24 : decode cX4_bitsOfShare 24 = .ok (.lcmp, 1) := by decide +kernel
theorem dX4_bitsOfShare_25 : decode cX4_bitsOfShare 25 = .ok (.ifCond .le 18, 3) := by decide +kernel
theorem dX4_bitsOfShare_28 : decode cX4_bitsOfShare 28 = .ok (.dload_n 2, 1) := by decide +kernel
theorem dX4_bitsOfShare_29 : decode cX4_bitsOfShare 29 = .ok (.ldc2_w 346, 3) := by decide +kernel
theorem dX4_bitsOfShare_32 : decode cX4_bitsOfShare 32 = .ok (.dmul, 1) := by decide +kernel
theorem dX4_bitsOfShare_33 : decode cX4_bitsOfShare 33 = .ok (.dstore_n 2, 1) := by decide +kernel
theorem dX4_bitsOfShare_34 : decode cX4_bitsOfShare 34 = .ok (.lload 4, 2) := by decide +kernel
theorem dX4_bitsOfShare_36 : decode cX4_bitsOfShare 36 = .ok (.lconst 1, 1) := by decide +kernel
theorem dX4_bitsOfShare_37 : decode cX4_bitsOfShare 37 = .ok (.lsub, 1) := by decide +kernel
theorem dX4_bitsOfShare_38 : decode cX4_bitsOfShare 38 = .ok (.lstore 4, 2) := by decide +kernel
theorem dX4_bitsOfShare_40 : decode cX4_bitsOfShare 40 = .ok (.goto (-25), 3) := by decide +kernel
theorem dX4_bitsOfShare_43 : decode cX4_bitsOfShare 43 = .ok (.dload_n 2, 1) := by decide +kernel
theorem dX4_bitsOfShare_44 : decode cX4_bitsOfShare 44 = .ok (.dconst 1, 1) := by decide +kernel
theorem dX4_bitsOfShare_45 : decode cX4_bitsOfShare 45 = .ok (.dsub, 1) := by decide +kernel
theorem dX4_bitsOfShare_46 : decode cX4_bitsOfShare 46 = .ok (.ldc2_w 348, 3) := by decide +kernel
theorem dX4_bitsOfShare_49 : decode cX4_bitsOfShare 49 = .ok (.dmul, 1) := by decide +kernel
theorem dX4_bitsOfShare_50 : decode cX4_bitsOfShare 50 = .ok (.d2l, 1) := by decide +kernel
theorem dX4_bitsOfShare_51 : decode cX4_bitsOfShare 51 = .ok (.lstore 6, 2) := by decide +kernel
theorem dX4_bitsOfShare_53 : decode cX4_bitsOfShare 53 = .ok (.lload 4, 2) := by decide +kernel
theorem dX4_bitsOfShare_55 : decode cX4_bitsOfShare 55 = .ok (.bipush 52, 2) := by decide +kernel
theorem dX4_bitsOfShare_57 : decode cX4_bitsOfShare 57 = .ok (.lshl, 1) := by decide +kernel
theorem dX4_bitsOfShare_58 : decode cX4_bitsOfShare 58 = .ok (.lload 6, 2) := by decide +kernel
theorem dX4_bitsOfShare_60 : decode cX4_bitsOfShare 60 = .ok (.ladd, 1) := by decide +kernel
theorem dX4_bitsOfShare_61 : decode cX4_bitsOfShare 61 = .ok (.lreturn, 1) := by decide +kernel
theorem dX5_init_0 : decode cX5_init 0 = .ok (.aload_n 0, 1) := by decide +kernel
theorem dX5_init_1 : decode cX5_init 1 = .ok (.invokespecial 1, 3) := by decide +kernel
theorem dX5_init_4 : decode cX5_init 4 = .ok (.aload_n 0, 1) := by decide +kernel
theorem dX5_init_5 : decode cX5_init 5 = .ok (.sipush 223, 3) := by decide +kernel
theorem dX5_init_8 : decode cX5_init 8 = .ok (.newarray .int, 2) := by decide +kernel
theorem dX5_init_10 : decode cX5_init 10 = .ok (.putfield 7, 3) := by decide +kernel
theorem dX5_init_13 : decode cX5_init 13 = .ok (.aload_n 0, 1) := by decide +kernel
theorem dX5_init_14 : decode cX5_init 14 = .ok (.sipush 223, 3) := by decide +kernel
theorem dX5_init_17 : decode cX5_init 17 = .ok (.newarray .int, 2) := by decide +kernel
theorem dX5_init_19 : decode cX5_init 19 = .ok (.putfield 13, 3) := by decide +kernel
theorem dX5_init_22 : decode cX5_init 22 = .ok (.aload_n 0, 1) := by decide +kernel
theorem dX5_init_23 : decode cX5_init 23 = .ok (.sipush 446, 3) := by decide +kernel
theorem dX5_init_26 : decode cX5_init 26 = .ok (.newarray .int, 2) := by decide +kernel
theorem dX5_init_28 : decode cX5_init 28 = .ok (.putfield 16, 3) := by decide +kernel
theorem dX5_init_31 : decode cX5_init 31 = .ok (.aload_n 0, 1) := by decide +kernel
theorem dX5_init_32 : decode cX5_init 32 = .ok (.iconst 2, 1) := by decide +kernel
theorem dX5_init_33 : decode cX5_init 33 = .ok (.newarray .boolean, 2) := by decide +kernel
theorem dX5_init_35 : decode cX5_init 35 = .ok (.putfield 19, 3) := by decide +kernel
theorem dX5_init_38 : decode cX5_init 38 = .ok (.aload_n 0, 1) := by decide +kernel
theorem dX5_init_39 : decode cX5_init 39 = .ok (.sipush 1338, 3) := by decide +kernel
theorem dX5_init_42 : decode cX5_init 42 = .ok (.newarray .int, 2) := by decide +kernel
theorem dX5_init_44 : decode cX5_init 44 = .ok (.putfield 23, 3) := by decide +kernel
theorem dX5_init_47 : decode cX5_init 47 = .ok (.aload_n 0, 1) := by decide +kernel
theorem dX5_init_48 : decode cX5_init 48 = .ok (.bipush 60, 2) := by decide +kernel
theorem dX5_init_50 : decode cX5_init 50 = .ok (.newarray .int, 2) := by decide +kernel
theorem dX5_init_52 : decode cX5_init 52 = .ok (.putfield 26, 3) := by decide +kernel
theorem dX5_init_55 : decode cX5_init 55 = .ok (.aload_n 0, 1) := by decide +kernel
theorem dX5_init_56 : decode cX5_init 56 = .ok (.bipush 6, 2) := by decide +kernel
theorem dX5_init_58 : decode cX5_init 58 = .ok (.newarray .int, 2) := by decide +kernel
theorem dX5_init_60 : decode cX5_init 60 = .ok (.putfield 29, 3) := by decide +kernel
theorem dX5_init_63 : decode cX5_init 63 = .ok (.aload_n 0, 1) := by decide +kernel
theorem dX5_init_64 : decode cX5_init 64 = .ok (.bipush 6, 2) := by decide +kernel
theorem dX5_init_66 : decode cX5_init 66 = .ok (.newarray .int, 2) := by decide +kernel
theorem dX5_init_68 : decode cX5_init 68 = .ok (.putfield 32, 3) := by decide +kernel
theorem dX5_init_71 : decode cX5_init 71 = .ok (.aload_n 0, 1) := by decide +kernel
theorem dX5_init_72 : decode cX5_init 72 = .ok (.getfield 7, 3) := by decide +kernel
theorem dX5_init_75 : decode cX5_init 75 = .ok (.iconst 5, 1) := by decide +kernel
theorem dX5_init_76 : decode cX5_init 76 = .ok (.bipush 40, 2) := by decide +kernel
theorem dX5_init_78 : decode cX5_init 78 = .ok (.iastore, 1) := by decide +kernel
theorem dX5_init_79 : decode cX5_init 79 = .ok (.return_, 1) := by decide +kernel
theorem dX5_thrown_0 : decode cX5_thrown 0 = .ok (.aload_n 0, 1) := by decide +kernel
theorem dX5_thrown_1 : decode cX5_thrown 1 = .ok (.getfield 35, 3) := by decide +kernel
theorem dX5_thrown_4 : decode cX5_thrown 4 = .ok (.ireturn, 1) := by decide +kernel
theorem dX5_in_0 : decode cX5_in 0 = .ok (.iload_n 0, 1) := by decide +kernel
theorem dX5_in_1 : decode cX5_in 1 = .ok (.iload_n 1, 1) := by decide +kernel
theorem dX5_in_2 : decode cX5_in 2 = .ok (.if_icmp .lt 12, 3) := by decide +kernel
theorem dX5_in_5 : decode cX5_in 5 = .ok (.iload_n 0, 1) := by decide +kernel
theorem dX5_in_6 : decode cX5_in 6 = .ok (.iload_n 2, 1) := by decide +kernel
theorem dX5_in_7 : decode cX5_in 7 = .ok (.if_icmp .gt 7, 3) := by decide +kernel
theorem dX5_in_10 : decode cX5_in 10 = .ok (.iconst 1, 1) := by decide +kernel
theorem dX5_in_11 : decode cX5_in 11 = .ok (.goto 4, 3) := by decide +kernel
theorem dX5_in_14 : decode cX5_in 14 = .ok (.iconst 0, 1) := by decide +kernel
theorem dX5_in_15 : decode cX5_in 15 = .ok (.ireturn, 1) := by decide +kernel
theorem dX5_isCord_0 : decode cX5_isCord 0 = .ok (.iload_n 0, 1) := by decide +kernel
theorem dX5_isCord_1 : decode cX5_isCord 1 = .ok (.iconst 0, 1) := by decide +kernel
theorem dX5_isCord_2 : decode cX5_isCord 2 = .ok (.bipush 6, 2) := by decide +kernel
theorem dX5_isCord_4 : decode cX5_isCord 4 = .ok (.invokestatic 39, 3) := by decide +kernel
theorem dX5_isCord_7 : decode cX5_isCord 7 = .ok (.ireturn, 1) := by decide +kernel
theorem dX5_holds_0 : decode cX5_holds 0 = .ok (.aload_n 0, 1) := by decide +kernel
theorem dX5_holds_1 : decode cX5_holds 1 = .ok (.iload_n 1, 1) := by decide +kernel
theorem dX5_holds_2 : decode cX5_holds 2 = .ok (.putfield 35, 3) := by decide +kernel
theorem dX5_holds_5 : decode cX5_holds 5 = .ok (.iload_n 1, 1) := by decide +kernel
theorem dX5_holds_6 : decode cX5_holds 6 = .ok (.ifCond .ne 7, 3) := by decide +kernel
theorem dX5_holds_9 : decode cX5_holds 9 = .ok (.iconst 1, 1) := by decide +kernel
theorem dX5_holds_10 : decode cX5_holds 10 = .ok (.goto 4, 3) := by decide +kernel
theorem dX5_holds_13 : decode cX5_holds 13 = .ok (.iconst 0, 1) := by decide +kernel
theorem dX5_holds_14 : decode cX5_holds 14 = .ok (.ireturn, 1) := by decide +kernel
theorem dX5_at_0 : decode cX5_at 0 = .ok (.bipush 6, 2) := by decide +kernel
theorem dX5_at_2 : decode cX5_at 2 = .ok (.bipush 31, 2) := by decide +kernel
theorem dX5_at_4 : decode cX5_at 4 = .ok (.iload_n 0, 1) := by decide +kernel
theorem dX5_at_5 : decode cX5_at 5 = .ok (.imul, 1) := by decide +kernel
theorem dX5_at_6 : decode cX5_at 6 = .ok (.iadd, 1) := by decide +kernel
theorem dX5_at_7 : decode cX5_at 7 = .ok (.iload_n 1, 1) := by decide +kernel
theorem dX5_at_8 : decode cX5_at 8 = .ok (.iadd, 1) := by decide +kernel
theorem dX5_at_9 : decode cX5_at 9 = .ok (.ireturn, 1) := by decide +kernel
theorem dX5_of_0 : decode cX5_of 0 = .ok (.aload_n 0, 1) := by decide +kernel
theorem dX5_of_1 : decode cX5_of 1 = .ok (.getfield 7, 3) := by decide +kernel
theorem dX5_of_4 : decode cX5_of 4 = .ok (.iload_n 1, 1) := by decide +kernel
theorem dX5_of_5 : decode cX5_of 5 = .ok (.iload_n 2, 1) := by decide +kernel
theorem dX5_of_6 : decode cX5_of 6 = .ok (.invokestatic 43, 3) := by decide +kernel
theorem dX5_of_9 : decode cX5_of 9 = .ok (.iaload, 1) := by decide +kernel
theorem dX5_of_10 : decode cX5_of 10 = .ok (.ireturn, 1) := by decide +kernel
theorem dX5_save_0 : decode cX5_save 0 = .ok (.aload_n 0, 1) := by decide +kernel
theorem dX5_save_1 : decode cX5_save 1 = .ok (.getfield 47, 3) := by decide +kernel
theorem dX5_save_4 : decode cX5_save 4 = .ok (.bipush 6, 2) := by decide +kernel
theorem dX5_save_6 : decode cX5_save 6 = .ok (.if_icmp .ne 44, 3) := by decide +kernel
theorem dX5_save_9 : decode cX5_save 9 = .ok (.iconst 0, 1) := by decide +kernel
theorem dX5_save_10 : decode cX5_save 10 = .ok (.istore_n 1, 1) := by decide +kernel
theorem dX5_save_11 : decode cX5_save 11 = .ok (.iload_n 1, 1) := by decide +kernel
theorem dX5_save_12 : decode cX5_save 12 = .ok (.sipush 1115, 3) := by decide +kernel
theorem dX5_save_15 : decode cX5_save 15 = .ok (.if_icmp .ge 25, 3) := by decide +kernel
theorem dX5_save_18 : decode cX5_save 18 = .ok (.aload_n 0, 1) := by decide +kernel
theorem dX5_save_19 : decode cX5_save 19 = .ok (.getfield 23, 3) := by decide +kernel
theorem dX5_save_22 : decode cX5_save 22 = .ok (.iload_n 1, 1) := by decide +kernel
theorem dX5_save_23 : decode cX5_save 23 = .ok (.aload_n 0, 1) := by decide +kernel
theorem dX5_save_24 : decode cX5_save 24 = .ok (.getfield 23, 3) := by decide +kernel
theorem dX5_save_27 : decode cX5_save 27 = .ok (.sipush 223, 3) := by decide +kernel
theorem dX5_save_30 : decode cX5_save 30 = .ok (.iload_n 1, 1) := by decide +kernel
theorem dX5_save_31 : decode cX5_save 31 = .ok (.iadd, 1) := by decide +kernel
theorem dX5_save_32 : decode cX5_save 32 = .ok (.iaload, 1) := by decide +kernel
theorem dX5_save_33 : decode cX5_save 33 = .ok (.iastore, 1) := by decide +kernel
theorem dX5_save_34 : decode cX5_save 34 = .ok (.iinc 1 1, 3) := by decide +kernel
theorem dX5_save_37 : decode cX5_save 37 = .ok (.goto (-26), 3) := by decide +kernel
theorem dX5_save_40 : decode cX5_save 40 = .ok (.aload_n 0, 1) := by decide +kernel
theorem dX5_save_41 : decode cX5_save 41 = .ok (.dup, 1) := by decide +kernel
theorem dX5_save_42 : decode cX5_save 42 = .ok (.getfield 47, 3) := by decide +kernel
theorem dX5_save_45 : decode cX5_save 45 = .ok (.iconst 1, 1) := by decide +kernel
theorem dX5_save_46 : decode cX5_save 46 = .ok (.isub, 1) := by decide +kernel
theorem dX5_save_47 : decode cX5_save 47 = .ok (.putfield 47, 3) := by decide +kernel
theorem dX5_save_50 : decode cX5_save 50 = .ok (.iconst 0, 1) := by decide +kernel
theorem dX5_save_51 : decode cX5_save 51 = .ok (.istore_n 1, 1) := by decide +kernel
theorem dX5_save_52 : decode cX5_save 52 = .ok (.iload_n 1, 1) := by decide +kernel
theorem dX5_save_53 : decode cX5_save 53 = .ok (.sipush 223, 3) := by decide +kernel
theorem dX5_save_56 : decode cX5_save 56 = .ok (.if_icmp .ge 30, 3) := by decide +kernel
theorem dX5_save_59 : decode cX5_save 59 = .ok (.aload_n 0, 1) := by decide +kernel
theorem dX5_save_60 : decode cX5_save 60 = .ok (.getfield 23, 3) := by decide +kernel
theorem dX5_save_63 : decode cX5_save 63 = .ok (.sipush 223, 3) := by decide +kernel
theorem dX5_save_66 : decode cX5_save 66 = .ok (.aload_n 0, 1) := by decide +kernel
theorem dX5_save_67 : decode cX5_save 67 = .ok (.getfield 47, 3) := by decide +kernel
theorem dX5_save_70 : decode cX5_save 70 = .ok (.imul, 1) := by decide +kernel
theorem dX5_save_71 : decode cX5_save 71 = .ok (.iload_n 1, 1) := by decide +kernel
theorem dX5_save_72 : decode cX5_save 72 = .ok (.iadd, 1) := by decide +kernel
theorem dX5_save_73 : decode cX5_save 73 = .ok (.aload_n 0, 1) := by decide +kernel
theorem dX5_save_74 : decode cX5_save 74 = .ok (.getfield 7, 3) := by decide +kernel
theorem dX5_save_77 : decode cX5_save 77 = .ok (.iload_n 1, 1) := by decide +kernel
theorem dX5_save_78 : decode cX5_save 78 = .ok (.iaload, 1) := by decide +kernel
theorem dX5_save_79 : decode cX5_save 79 = .ok (.iastore, 1) := by decide +kernel
theorem dX5_save_80 : decode cX5_save 80 = .ok (.iinc 1 1, 3) := by decide +kernel
theorem dX5_save_83 : decode cX5_save 83 = .ok (.goto (-31), 3) := by decide +kernel
theorem dX5_save_86 : decode cX5_save 86 = .ok (.aload_n 0, 1) := by decide +kernel
theorem dX5_save_87 : decode cX5_save 87 = .ok (.dup, 1) := by decide +kernel
theorem dX5_save_88 : decode cX5_save 88 = .ok (.getfield 47, 3) := by decide +kernel
theorem dX5_save_91 : decode cX5_save 91 = .ok (.iconst 1, 1) := by decide +kernel
theorem dX5_save_92 : decode cX5_save 92 = .ok (.iadd, 1) := by decide +kernel
theorem dX5_save_93 : decode cX5_save 93 = .ok (.putfield 47, 3) := by decide +kernel
theorem dX5_save_96 : decode cX5_save 96 = .ok (.return_, 1) := by decide +kernel
theorem dX5_putAside_0 : decode cX5_putAside 0 = .ok (.iconst 0, 1) := by decide +kernel
theorem dX5_putAside_1 : decode cX5_putAside 1 = .ok (.istore_n 1, 1) := by decide +kernel
theorem dX5_putAside_2 : decode cX5_putAside 2 = .ok (.iload_n 1, 1) := by decide +kernel
theorem dX5_putAside_3 : decode cX5_putAside 3 = .ok (.sipush 223, 3) := by decide +kernel
theorem dX5_putAside_6 : decode cX5_putAside 6 = .ok (.if_icmp .ge 21, 3) := by decide +kernel
theorem dX5_putAside_9 : decode cX5_putAside 9 = .ok (.aload_n 0, 1) := by decide +kernel
theorem dX5_putAside_10 : decode cX5_putAside 10 = .ok (.getfield 13, 3) := by decide +kernel
theorem dX5_putAside_13 : decode cX5_putAside 13 = .ok (.iload_n 1, 1) := by decide +kernel
theorem dX5_putAside_14 : decode cX5_putAside 14 = .ok (.aload_n 0, 1) := by decide +kernel
theorem dX5_putAside_15 : decode cX5_putAside 15 = .ok (.getfield 7, 3) := by decide +kernel
theorem dX5_putAside_18 : decode cX5_putAside 18 = .ok (.iload_n 1, 1) := by decide +kernel
theorem dX5_putAside_19 : decode cX5_putAside 19 = .ok (.iaload, 1) := by decide +kernel
theorem dX5_putAside_20 : decode cX5_putAside 20 = .ok (.iastore, 1) := by decide +kernel
theorem dX5_putAside_21 : decode cX5_putAside 21 = .ok (.iinc 1 1, 3) := by decide +kernel
theorem dX5_putAside_24 : decode cX5_putAside 24 = .ok (.goto (-22), 3) := by decide +kernel
theorem dX5_putAside_27 : decode cX5_putAside 27 = .ok (.return_, 1) := by decide +kernel
theorem dX5_putBack_0 : decode cX5_putBack 0 = .ok (.iconst 0, 1) := by decide +kernel
theorem dX5_putBack_1 : decode cX5_putBack 1 = .ok (.istore_n 1, 1) := by decide +kernel
theorem dX5_putBack_2 : decode cX5_putBack 2 = .ok (.iload_n 1, 1) := by decide +kernel
theorem dX5_putBack_3 : decode cX5_putBack 3 = .ok (.sipush 223, 3) := by decide +kernel
theorem dX5_putBack_6 : decode cX5_putBack 6 = .ok (.if_icmp .ge 21, 3) := by decide +kernel
theorem dX5_putBack_9 : decode cX5_putBack 9 = .ok (.aload_n 0, 1) := by decide +kernel
theorem dX5_putBack_10 : decode cX5_putBack 10 = .ok (.getfield 7, 3) := by decide +kernel
theorem dX5_putBack_13 : decode cX5_putBack 13 = .ok (.iload_n 1, 1) := by decide +kernel
theorem dX5_putBack_14 : decode cX5_putBack 14 = .ok (.aload_n 0, 1) := by decide +kernel
theorem dX5_putBack_15 : decode cX5_putBack 15 = .ok (.getfield 13, 3) := by decide +kernel
theorem dX5_putBack_18 : decode cX5_putBack 18 = .ok (.iload_n 1, 1) := by decide +kernel
theorem dX5_putBack_19 : decode cX5_putBack 19 = .ok (.iaload, 1) := by decide +kernel
theorem dX5_putBack_20 : decode cX5_putBack 20 = .ok (.iastore, 1) := by decide +kernel
theorem dX5_putBack_21 : decode cX5_putBack 21 = .ok (.iinc 1 1, 3) := by decide +kernel
theorem dX5_putBack_24 : decode cX5_putBack 24 = .ok (.goto (-22), 3) := by decide +kernel
theorem dX5_putBack_27 : decode cX5_putBack 27 = .ok (.return_, 1) := by decide +kernel
theorem dX5_open_0 : decode cX5_open 0 = .ok (.aload_n 0, 1) := by decide +kernel
theorem dX5_open_1 : decode cX5_open 1 = .ok (.iload_n 1, 1) := by decide +kernel
theorem dX5_open_2 : decode cX5_open 2 = .ok (.bipush 19, 2) := by decide +kernel
theorem dX5_open_4 : decode cX5_open 4 = .ok (.iload_n 2, 1) := by decide +kernel
theorem dX5_open_5 : decode cX5_open 5 = .ok (.iadd, 1) := by decide +kernel
theorem dX5_open_6 : decode cX5_open 6 = .ok (.invokevirtual 50, 3) := by decide +kernel
theorem dX5_open_9 : decode cX5_open 9 = .ok (.bipush 10, 2) := by decide +kernel
theorem dX5_open_11 : decode cX5_open 11 = .ok (.aload_n 0, 1) := by decide +kernel
theorem dX5_open_12 : decode cX5_open 12 = .ok (.iload_n 1, 1) := by decide +kernel
theorem dX5_open_13 : decode cX5_open 13 = .ok (.bipush 25, 2) := by decide +kernel
theorem dX5_open_15 : decode cX5_open 15 = .ok (.iload_n 2, 1) := by decide +kernel
theorem dX5_open_16 : decode cX5_open 16 = .ok (.iadd, 1) := by decide +kernel
theorem dX5_open_17 : decode cX5_open 17 = .ok (.invokevirtual 50, 3) := by decide +kernel
theorem dX5_open_20 : decode cX5_open 20 = .ok (.imul, 1) := by decide +kernel
theorem dX5_open_21 : decode cX5_open 21 = .ok (.isub, 1) := by decide +kernel
theorem dX5_open_22 : decode cX5_open 22 = .ok (.ireturn, 1) := by decide +kernel
theorem dX5_told_0 : decode cX5_told 0 = .ok (.iconst 0, 1) := by decide +kernel
theorem dX5_told_1 : decode cX5_told 1 = .ok (.istore_n 2, 1) := by decide +kernel
theorem dX5_told_2 : decode cX5_told 2 = .ok (.iconst 5, 1) := by decide +kernel
theorem dX5_told_3 : decode cX5_told 3 = .ok (.istore_n 3, 1) := by decide +kernel
theorem dX5_told_4 : decode cX5_told 4 = .ok (.iload_n 3, 1) := by decide +kernel
theorem dX5_told_5 : decode cX5_told 5 = .ok (.ifCond .lt 21, 3) := by decide +kernel
theorem dX5_told_8 : decode cX5_told 8 = .ok (.bipush 10, 2) := by decide +kernel
theorem dX5_told_10 : decode cX5_told 10 = .ok (.iload_n 2, 1) := by decide +kernel
theorem dX5_told_11 : decode cX5_told 11 = .ok (.imul, 1) := by decide +kernel
theorem dX5_told_12 : decode cX5_told 12 = .ok (.aload_n 0, 1) := by decide +kernel
theorem dX5_told_13 : decode cX5_told 13 = .ok (.iload_n 1, 1) := by decide +kernel
theorem dX5_told_14 : decode cX5_told 14 = .ok (.iload_n 3, 1) := by decide +kernel
theorem dX5_told_15 : decode cX5_told 15 = .ok (.invokevirtual 53, 3) := by decide +kernel
theorem dX5_told_18 : decode cX5_told 18 = .ok (.iadd, 1) := by decide +kernel
theorem dX5_told_19 : decode cX5_told 19 = .ok (.istore_n 2, 1) := by decide +kernel
theorem dX5_told_20 : decode cX5_told 20 = .ok (.iinc 3 (-1), 3) := by decide +kernel
theorem dX5_told_23 : decode cX5_told 23 = .ok (.goto (-19), 3) := by decide +kernel
theorem dX5_told_26 : decode cX5_told 26 = .ok (.iload_n 2, 1) := by decide +kernel
theorem dX5_told_27 : decode cX5_told 27 = .ok (.ireturn, 1) := by decide +kernel
theorem dX5_partsTold_0 : decode cX5_partsTold 0 = .ok (.iconst 0, 1) := by decide +kernel
theorem dX5_partsTold_1 : decode cX5_partsTold 1 = .ok (.istore_n 2, 1) := by decide +kernel
theorem dX5_partsTold_2 : decode cX5_partsTold 2 = .ok (.iconst 0, 1) := by decide +kernel
theorem dX5_partsTold_3 : decode cX5_partsTold 3 = .ok (.istore_n 3, 1) := by decide +kernel
theorem dX5_partsTold_4 : decode cX5_partsTold 4 = .ok (.iload_n 3, 1) := by decide +kernel
theorem dX5_partsTold_5 : decode cX5_partsTold 5 = .ok (.aload_n 0, 1) := by decide +kernel
theorem dX5_partsTold_6 : decode cX5_partsTold 6 = .ok (.iload_n 1, 1) := by decide +kernel
theorem dX5_partsTold_7 : decode cX5_partsTold 7 = .ok (.iconst 1, 1) := by decide +kernel
theorem dX5_partsTold_8 : decode cX5_partsTold 8 = .ok (.invokevirtual 50, 3) := by decide +kernel
theorem dX5_partsTold_11 : decode cX5_partsTold 11 = .ok (.if_icmp .ge 20, 3) := by decide +kernel
theorem dX5_partsTold_14 : decode cX5_partsTold 14 = .ok (.iload_n 2, 1) := by decide +kernel
theorem dX5_partsTold_15 : decode cX5_partsTold 15 = .ok (.aload_n 0, 1) := by decide +kernel
theorem dX5_partsTold_16 : decode cX5_partsTold 16 = .ok (.iload_n 1, 1) := by decide +kernel
theorem dX5_partsTold_17 : decode cX5_partsTold 17 = .ok (.iconst 3, 1) := by decide +kernel
theorem dX5_partsTold_18 : decode cX5_partsTold 18 = .ok (.iload_n 3, 1) := by decide +kernel
theorem dX5_partsTold_19 : decode cX5_partsTold 19 = .ok (.iadd, 1) := by decide +kernel
theorem dX5_partsTold_20 : decode cX5_partsTold 20 = .ok (.invokevirtual 50, 3) := by decide +kernel
theorem dX5_partsTold_23 : decode cX5_partsTold 23 = .ok (.iadd, 1) := by decide +kernel
theorem dX5_partsTold_24 : decode cX5_partsTold 24 = .ok (.istore_n 2, 1) := by decide +kernel
theorem dX5_partsTold_25 : decode cX5_partsTold 25 = .ok (.iinc 3 1, 3) := by decide +kernel
theorem dX5_partsTold_28 : decode cX5_partsTold 28 = .ok (.goto (-24), 3) := by decide +kernel
theorem dX5_partsTold_31 : decode cX5_partsTold 31 = .ok (.iload_n 2, 1) := by decide +kernel
theorem dX5_partsTold_32 : decode cX5_partsTold 32 = .ok (.ireturn, 1) := by decide +kernel
theorem dX5_lacks_0 : decode cX5_lacks 0 = .ok (.aload_n 0, 1) := by decide +kernel
theorem dX5_lacks_1 : decode cX5_lacks 1 = .ok (.iload_n 1, 1) := by decide +kernel
theorem dX5_lacks_2 : decode cX5_lacks 2 = .ok (.invokevirtual 56, 3) := by decide +kernel
theorem dX5_lacks_5 : decode cX5_lacks 5 = .ok (.aload_n 0, 1) := by decide +kernel
theorem dX5_lacks_6 : decode cX5_lacks 6 = .ok (.iload_n 1, 1) := by decide +kernel
theorem dX5_lacks_7 : decode cX5_lacks 7 = .ok (.invokevirtual 60, 3) := by decide +kernel
theorem dX5_lacks_10 : decode cX5_lacks 10 = .ok (.isub, 1) := by decide +kernel
theorem dX5_lacks_11 : decode cX5_lacks 11 = .ok (.ireturn, 1) := by decide +kernel
theorem dX5_ties_0 : decode cX5_ties 0 = .ok (.iconst 0, 1) := by decide +kernel
theorem dX5_ties_1 : decode cX5_ties 1 = .ok (.istore_n 2, 1) := by decide +kernel
theorem dX5_ties_2 : decode cX5_ties 2 = .ok (.bipush 19, 2) := by decide +kernel
theorem dX5_ties_4 : decode cX5_ties 4 = .ok (.istore_n 3, 1) := by decide +kernel
theorem dX5_ties_5 : decode cX5_ties 5 = .ok (.iload_n 3, 1) := by decide +kernel
theorem dX5_ties_6 : decode cX5_ties 6 = .ok (.bipush 31, 2) := by decide +kernel
theorem dX5_ties_8 : decode cX5_ties 8 = .ok (.if_icmp .ge 18, 3) := by decide +kernel
theorem dX5_ties_11 : decode cX5_ties 11 = .ok (.iload_n 2, 1) := by decide +kernel
theorem dX5_ties_12 : decode cX5_ties 12 = .ok (.aload_n 0, 1) := by decide +kernel
theorem dX5_ties_13 : decode cX5_ties 13 = .ok (.iload_n 1, 1) := by decide +kernel
theorem dX5_ties_14 : decode cX5_ties 14 = .ok (.iload_n 3, 1) := by decide +kernel
theorem dX5_ties_15 : decode cX5_ties 15 = .ok (.invokevirtual 50, 3) := by decide +kernel
theorem dX5_ties_18 : decode cX5_ties 18 = .ok (.iadd, 1) := by decide +kernel
theorem dX5_ties_19 : decode cX5_ties 19 = .ok (.istore_n 2, 1) := by decide +kernel
theorem dX5_ties_20 : decode cX5_ties 20 = .ok (.iinc 3 1, 3) := by decide +kernel
theorem dX5_ties_23 : decode cX5_ties 23 = .ok (.goto (-18), 3) := by decide +kernel
theorem dX5_ties_26 : decode cX5_ties 26 = .ok (.iload_n 2, 1) := by decide +kernel
theorem dX5_ties_27 : decode cX5_ties 27 = .ok (.ireturn, 1) := by decide +kernel
theorem dX5_allTies_0 : decode cX5_allTies 0 = .ok (.iconst 0, 1) := by decide +kernel
theorem dX5_allTies_1 : decode cX5_allTies 1 = .ok (.istore_n 1, 1) := by decide +kernel
theorem dX5_allTies_2 : decode cX5_allTies 2 = .ok (.iconst 0, 1) := by decide +kernel
theorem dX5_allTies_3 : decode cX5_allTies 3 = .ok (.istore_n 2, 1) := by decide +kernel
theorem dX5_allTies_4 : decode cX5_allTies 4 = .ok (.iload_n 2, 1) := by decide +kernel
theorem dX5_allTies_5 : decode cX5_allTies 5 = .ok (.bipush 7, 2) := by decide +kernel
theorem dX5_allTies_7 : decode cX5_allTies 7 = .ok (.if_icmp .ge 17, 3) := by decide +kernel
theorem dX5_allTies_10 : decode cX5_allTies 10 = .ok (.iload_n 1, 1) := by decide +kernel
theorem dX5_allTies_11 : decode cX5_allTies 11 = .ok (.aload_n 0, 1) := by decide +kernel
theorem dX5_allTies_12 : decode cX5_allTies 12 = .ok (.iload_n 2, 1) := by decide +kernel
theorem dX5_allTies_13 : decode cX5_allTies 13 = .ok (.invokevirtual 63, 3) := by decide +kernel
theorem dX5_allTies_16 : decode cX5_allTies 16 = .ok (.iadd, 1) := by decide +kernel
theorem dX5_allTies_17 : decode cX5_allTies 17 = .ok (.istore_n 1, 1) := by decide +kernel
theorem dX5_allTies_18 : decode cX5_allTies 18 = .ok (.iinc 2 1, 3) := by decide +kernel
theorem dX5_allTies_21 : decode cX5_allTies 21 = .ok (.goto (-17), 3) := by decide +kernel
theorem dX5_allTies_24 : decode cX5_allTies 24 = .ok (.iload_n 1, 1) := by decide +kernel
theorem dX5_allTies_25 : decode cX5_allTies 25 = .ok (.ireturn, 1) := by decide +kernel
theorem dX5_lays_0 : decode cX5_lays 0 = .ok (.aload_n 0, 1) := by decide +kernel
theorem dX5_lays_1 : decode cX5_lays 1 = .ok (.iload_n 1, 1) := by decide +kernel
theorem dX5_lays_2 : decode cX5_lays 2 = .ok (.invokevirtual 60, 3) := by decide +kernel
theorem dX5_lays_5 : decode cX5_lays 5 = .ok (.iload_n 2, 1) := by decide +kernel
theorem dX5_lays_6 : decode cX5_lays 6 = .ok (.iadd, 1) := by decide +kernel
theorem dX5_lays_7 : decode cX5_lays 7 = .ok (.ldc 66, 2) := by decide +kernel
theorem dX5_lays_9 : decode cX5_lays 9 = .ok (.if_icmp .le 5, 3) := by decide +kernel
theorem dX5_lays_12 : decode cX5_lays 12 = .ok (.iconst 1, 1) := by decide +kernel
theorem dX5_lays_13 : decode cX5_lays 13 = .ok (.ireturn, 1) := by decide +kernel
theorem dX5_lays_14 : decode cX5_lays 14 = .ok (.iload_n 2, 1) := by decide +kernel
theorem dX5_lays_15 : decode cX5_lays 15 = .ok (.istore_n 3, 1) := by decide +kernel
theorem dX5_lays_16 : decode cX5_lays 16 = .ok (.iconst 0, 1) := by decide +kernel
theorem dX5_lays_17 : decode cX5_lays 17 = .ok (.istore 4, 2) := by decide +kernel
theorem dX5_lays_19 : decode cX5_lays 19 = .ok (.iconst 0, 1) := by decide +kernel
theorem dX5_lays_20 : decode cX5_lays 20 = .ok (.istore 5, 2) := by decide +kernel
theorem dX5_lays_22 : decode cX5_lays 22 = .ok (.iconst 0, 1) := by decide +kernel
theorem dX5_lays_23 : decode cX5_lays 23 = .ok (.istore 6, 2) := by decide +kernel
theorem dX5_lays_25 : decode cX5_lays 25 = .ok (.iload 6, 2) := by decide +kernel
theorem dX5_lays_27 : decode cX5_lays 27 = .ok (.bipush 6, 2) := by decide +kernel
theorem dX5_lays_29 : decode cX5_lays 29 = .ok (.if_icmp .ge 132, 3) := by decide +kernel
theorem dX5_lays_32 : decode cX5_lays 32 = .ok (.aload_n 0, 1) := by decide +kernel
theorem dX5_lays_33 : decode cX5_lays 33 = .ok (.getfield 29, 3) := by decide +kernel
theorem dX5_lays_36 : decode cX5_lays 36 = .ok (.iload 6, 2) := by decide +kernel
theorem dX5_lays_38 : decode cX5_lays 38 = .ok (.iload_n 3, 1) := by decide +kernel
theorem dX5_lays_39 : decode cX5_lays 39 = .ok (.bipush 10, 2) := by decide +kernel
theorem dX5_lays_41 : decode cX5_lays 41 = .ok (.irem, 1) := by decide +kernel
theorem dX5_lays_42 : decode cX5_lays 42 = .ok (.iload 4, 2) := by decide +kernel
theorem dX5_lays_44 : decode cX5_lays 44 = .ok (.iadd, 1) := by decide +kernel
theorem dX5_lays_45 : decode cX5_lays 45 = .ok (.iastore, 1) := by decide +kernel
theorem dX5_lays_46 : decode cX5_lays 46 = .ok (.aload_n 0, 1) := by decide +kernel
theorem dX5_lays_47 : decode cX5_lays 47 = .ok (.iload_n 1, 1) := by decide +kernel
theorem dX5_lays_48 : decode cX5_lays 48 = .ok (.iload 6, 2) := by decide +kernel
theorem dX5_lays_50 : decode cX5_lays 50 = .ok (.invokevirtual 53, 3) := by decide +kernel
theorem dX5_lays_53 : decode cX5_lays 53 = .ok (.aload_n 0, 1) := by decide +kernel
theorem dX5_lays_54 : decode cX5_lays 54 = .ok (.getfield 29, 3) := by decide +kernel
theorem dX5_lays_57 : decode cX5_lays 57 = .ok (.iload 6, 2) := by decide +kernel
theorem dX5_lays_59 : decode cX5_lays 59 = .ok (.iaload, 1) := by decide +kernel
theorem dX5_lays_60 : decode cX5_lays 60 = .ok (.iadd, 1) := by decide +kernel
theorem dX5_lays_61 : decode cX5_lays 61 = .ok (.bipush 10, 2) := by decide +kernel
theorem dX5_lays_63 : decode cX5_lays 63 = .ok (.idiv, 1) := by decide +kernel
theorem dX5_lays_64 : decode cX5_lays 64 = .ok (.istore 4, 2) := by decide +kernel
theorem dX5_lays_66 : decode cX5_lays 66 = .ok (.aload_n 0, 1) := by decide +kernel
theorem dX5_lays_67 : decode cX5_lays 67 = .ok (.getfield 32, 3) := by decide +kernel
theorem dX5_lays_70 : decode cX5_lays 70 = .ok (.iload 6, 2) := by decide +kernel
theorem dX5_lays_72 : decode cX5_lays 72 = .ok (.iload 4, 2) := by decide +kernel
theorem dX5_lays_74 : decode cX5_lays 74 = .ok (.iastore, 1) := by decide +kernel
theorem dX5_lays_75 : decode cX5_lays 75 = .ok (.iload_n 3, 1) := by decide +kernel
theorem dX5_lays_76 : decode cX5_lays 76 = .ok (.bipush 10, 2) := by decide +kernel
theorem dX5_lays_78 : decode cX5_lays 78 = .ok (.idiv, 1) := by decide +kernel
theorem dX5_lays_79 : decode cX5_lays 79 = .ok (.istore_n 3, 1) := by decide +kernel
theorem dX5_lays_80 : decode cX5_lays 80 = .ok (.aload_n 0, 1) := by decide +kernel
theorem dX5_lays_81 : decode cX5_lays 81 = .ok (.getfield 29, 3) := by decide +kernel
theorem dX5_lays_84 : decode cX5_lays 84 = .ok (.iload 6, 2) := by decide +kernel
theorem dX5_lays_86 : decode cX5_lays 86 = .ok (.iaload, 1) := by decide +kernel
theorem dX5_lays_87 : decode cX5_lays 87 = .ok (.aload_n 0, 1) := by decide +kernel
theorem dX5_lays_88 : decode cX5_lays 88 = .ok (.getfield 32, 3) := by decide +kernel
theorem dX5_lays_91 : decode cX5_lays 91 = .ok (.iload 6, 2) := by decide +kernel
theorem dX5_lays_93 : decode cX5_lays 93 = .ok (.iaload, 1) := by decide +kernel
theorem dX5_lays_94 : decode cX5_lays 94 = .ok (.iadd, 1) := by decide +kernel
theorem dX5_lays_95 : decode cX5_lays 95 = .ok (.istore 7, 2) := by decide +kernel
theorem dX5_lays_97 : decode cX5_lays 97 = .ok (.aload_n 0, 1) := by decide +kernel
theorem dX5_lays_98 : decode cX5_lays 98 = .ok (.iload_n 1, 1) := by decide +kernel
theorem dX5_lays_99 : decode cX5_lays 99 = .ok (.bipush 19, 2) := by decide +kernel
theorem dX5_lays_101 : decode cX5_lays 101 = .ok (.iload 6, 2) := by decide +kernel
theorem dX5_lays_103 : decode cX5_lays 103 = .ok (.iadd, 1) := by decide +kernel
theorem dX5_lays_104 : decode cX5_lays 104 = .ok (.invokevirtual 50, 3) := by decide +kernel
theorem dX5_lays_107 : decode cX5_lays 107 = .ok (.aload_n 0, 1) := by decide +kernel
theorem dX5_lays_108 : decode cX5_lays 108 = .ok (.iload_n 1, 1) := by decide +kernel
theorem dX5_lays_109 : decode cX5_lays 109 = .ok (.bipush 25, 2) := by decide +kernel
theorem dX5_lays_111 : decode cX5_lays 111 = .ok (.iload 6, 2) := by decide +kernel
theorem dX5_lays_113 : decode cX5_lays 113 = .ok (.iadd, 1) := by decide +kernel
theorem dX5_lays_114 : decode cX5_lays 114 = .ok (.invokevirtual 50, 3) := by decide +kernel
theorem dX5_lays_117 : decode cX5_lays 117 = .ok (.iadd, 1) := by decide +kernel
theorem dX5_lays_118 : decode cX5_lays 118 = .ok (.iload 7, 2) := by decide +kernel
theorem dX5_lays_120 : decode cX5_lays 120 = .ok (.iadd, 1) := by decide +kernel
theorem dX5_lays_121 : decode cX5_lays 121 = .ok (.aload_n 0, 1) := by decide +kernel
theorem dX5_lays_122 : decode cX5_lays 122 = .ok (.getfield 7, 3) := by decide +kernel
theorem dX5_lays_125 : decode cX5_lays 125 = .ok (.iconst 5, 1) := by decide +kernel
theorem dX5_lays_126 : decode cX5_lays 126 = .ok (.iaload, 1) := by decide +kernel
theorem dX5_lays_127 : decode cX5_lays 127 = .ok (.if_icmp .le 7, 3) := by decide +kernel
theorem dX5_lays_130 : decode cX5_lays 130 = .ok (.iconst 1, 1) := by decide +kernel
theorem dX5_lays_131 : decode cX5_lays 131 = .ok (.goto 4, 3) := by decide +kernel
theorem dX5_lays_134 : decode cX5_lays 134 = .ok (.iconst 0, 1) := by decide +kernel
theorem dX5_lays_135 : decode cX5_lays 135 = .ok (.istore 8, 2) := by decide +kernel
theorem dX5_lays_137 : decode cX5_lays 137 = .ok (.iload 7, 2) := by decide +kernel
theorem dX5_lays_139 : decode cX5_lays 139 = .ok (.ifCond .le 12, 3) := by decide +kernel
theorem dX5_lays_142 : decode cX5_lays 142 = .ok (.iload 8, 2) := by decide +kernel
theorem dX5_lays_144 : decode cX5_lays 144 = .ok (.ifCond .eq 7, 3) := by decide +kernel
theorem dX5_lays_147 : decode cX5_lays 147 = .ok (.iconst 2, 1) := by decide +kernel
theorem dX5_lays_148 : decode cX5_lays 148 = .ok (.goto 5, 3) := by decide +kernel
theorem dX5_lays_151 : decode cX5_lays 151 = .ok (.iload 5, 2) := by decide +kernel
theorem dX5_lays_153 : decode cX5_lays 153 = .ok (.istore 5, 2) := by decide +kernel
theorem dX5_lays_155 : decode cX5_lays 155 = .ok (.iinc 6 1, 3) := by decide +kernel
theorem dX5_lays_158 : decode cX5_lays 158 = .ok (.goto (-133), 3) := by decide +kernel
theorem dX5_lays_161 : decode cX5_lays 161 = .ok (.iload 5, 2) := by decide +kernel
theorem dX5_lays_163 : decode cX5_lays 163 = .ok (.ireturn, 1) := by decide +kernel
theorem dX5_knits_0 : decode cX5_knits 0 = .ok (.iconst 0, 1) := by decide +kernel
theorem dX5_knits_1 : decode cX5_knits 1 = .ok (.istore_n 2, 1) := by decide +kernel
theorem dX5_knits_2 : decode cX5_knits 2 = .ok (.iconst 0, 1) := by decide +kernel
theorem dX5_knits_3 : decode cX5_knits 3 = .ok (.istore_n 3, 1) := by decide +kernel
theorem dX5_knits_4 : decode cX5_knits 4 = .ok (.iload_n 3, 1) := by decide +kernel
theorem dX5_knits_5 : decode cX5_knits 5 = .ok (.bipush 6, 2) := by decide +kernel
theorem dX5_knits_7 : decode cX5_knits 7 = .ok (.if_icmp .ge 77, 3) := by decide +kernel
theorem dX5_knits_10 : decode cX5_knits 10 = .ok (.aload_n 0, 1) := by decide +kernel
theorem dX5_knits_11 : decode cX5_knits 11 = .ok (.getfield 7, 3) := by decide +kernel
theorem dX5_knits_14 : decode cX5_knits 14 = .ok (.iload_n 1, 1) := by decide +kernel
theorem dX5_knits_15 : decode cX5_knits 15 = .ok (.bipush 19, 2) := by decide +kernel
theorem dX5_knits_17 : decode cX5_knits 17 = .ok (.iload_n 3, 1) := by decide +kernel
theorem dX5_knits_18 : decode cX5_knits 18 = .ok (.iadd, 1) := by decide +kernel
theorem dX5_knits_19 : decode cX5_knits 19 = .ok (.invokestatic 43, 3) := by decide +kernel
theorem dX5_knits_22 : decode cX5_knits 22 = .ok (.dup2, 1) := by decide +kernel
theorem dX5_knits_23 : decode cX5_knits 23 = .ok (.iaload, 1) := by decide +kernel
theorem dX5_knits_24 : decode cX5_knits 24 = .ok (.aload_n 0, 1) := by decide +kernel
theorem dX5_knits_25 : decode cX5_knits 25 = .ok (.getfield 29, 3) := by decide +kernel
theorem dX5_knits_28 : decode cX5_knits 28 = .ok (.iload_n 3, 1) := by decide +kernel
theorem dX5_knits_29 : decode cX5_knits 29 = .ok (.iaload, 1) := by decide +kernel
theorem dX5_knits_30 : decode cX5_knits 30 = .ok (.iadd, 1) := by decide +kernel
theorem dX5_knits_31 : decode cX5_knits 31 = .ok (.iastore, 1) := by decide +kernel
theorem dX5_knits_32 : decode cX5_knits 32 = .ok (.aload_n 0, 1) := by decide +kernel
theorem dX5_knits_33 : decode cX5_knits 33 = .ok (.getfield 7, 3) := by decide +kernel
theorem dX5_knits_36 : decode cX5_knits 36 = .ok (.iload_n 1, 1) := by decide +kernel
theorem dX5_knits_37 : decode cX5_knits 37 = .ok (.bipush 25, 2) := by decide +kernel
theorem dX5_knits_39 : decode cX5_knits 39 = .ok (.iload_n 3, 1) := by decide +kernel
theorem dX5_knits_40 : decode cX5_knits 40 = .ok (.iadd, 1) := by decide +kernel
theorem dX5_knits_41 : decode cX5_knits 41 = .ok (.invokestatic 43, 3) := by decide +kernel
theorem dX5_knits_44 : decode cX5_knits 44 = .ok (.dup2, 1) := by decide +kernel
theorem dX5_knits_45 : decode cX5_knits 45 = .ok (.iaload, 1) := by decide +kernel
theorem dX5_knits_46 : decode cX5_knits 46 = .ok (.aload_n 0, 1) := by decide +kernel
theorem dX5_knits_47 : decode cX5_knits 47 = .ok (.getfield 32, 3) := by decide +kernel
theorem dX5_knits_50 : decode cX5_knits 50 = .ok (.iload_n 3, 1) := by decide +kernel
theorem dX5_knits_51 : decode cX5_knits 51 = .ok (.iaload, 1) := by decide +kernel
theorem dX5_knits_52 : decode cX5_knits 52 = .ok (.iadd, 1) := by decide +kernel
theorem dX5_knits_53 : decode cX5_knits 53 = .ok (.iastore, 1) := by decide +kernel
theorem dX5_knits_54 : decode cX5_knits 54 = .ok (.aload_n 0, 1) := by decide +kernel
theorem dX5_knits_55 : decode cX5_knits 55 = .ok (.getfield 7, 3) := by decide +kernel
theorem dX5_knits_58 : decode cX5_knits 58 = .ok (.iconst 0, 1) := by decide +kernel
theorem dX5_knits_59 : decode cX5_knits 59 = .ok (.dup2, 1) := by decide +kernel
theorem dX5_knits_60 : decode cX5_knits 60 = .ok (.iaload, 1) := by decide +kernel
theorem dX5_knits_61 : decode cX5_knits 61 = .ok (.aload_n 0, 1) := by decide +kernel
theorem dX5_knits_62 : decode cX5_knits 62 = .ok (.getfield 29, 3) := by decide +kernel
theorem dX5_knits_65 : decode cX5_knits 65 = .ok (.iload_n 3, 1) := by decide +kernel
theorem dX5_knits_66 : decode cX5_knits 66 = .ok (.iaload, 1) := by decide +kernel
theorem dX5_knits_67 : decode cX5_knits 67 = .ok (.iadd, 1) := by decide +kernel
theorem dX5_knits_68 : decode cX5_knits 68 = .ok (.iastore, 1) := by decide +kernel
theorem dX5_knits_69 : decode cX5_knits 69 = .ok (.iload_n 2, 1) := by decide +kernel
theorem dX5_knits_70 : decode cX5_knits 70 = .ok (.aload_n 0, 1) := by decide +kernel
theorem dX5_knits_71 : decode cX5_knits 71 = .ok (.getfield 32, 3) := by decide +kernel
theorem dX5_knits_74 : decode cX5_knits 74 = .ok (.iload_n 3, 1) := by decide +kernel
theorem dX5_knits_75 : decode cX5_knits 75 = .ok (.iaload, 1) := by decide +kernel
theorem dX5_knits_76 : decode cX5_knits 76 = .ok (.iadd, 1) := by decide +kernel
theorem dX5_knits_77 : decode cX5_knits 77 = .ok (.istore_n 2, 1) := by decide +kernel
theorem dX5_knits_78 : decode cX5_knits 78 = .ok (.iinc 3 1, 3) := by decide +kernel
theorem dX5_knits_81 : decode cX5_knits 81 = .ok (.goto (-77), 3) := by decide +kernel
theorem dX5_knits_84 : decode cX5_knits 84 = .ok (.aload_n 0, 1) := by decide +kernel
theorem dX5_knits_85 : decode cX5_knits 85 = .ok (.getfield 7, 3) := by decide +kernel
theorem dX5_knits_88 : decode cX5_knits 88 = .ok (.iconst 1, 1) := by decide +kernel
theorem dX5_knits_89 : decode cX5_knits 89 = .ok (.dup2, 1) := by decide +kernel
theorem dX5_knits_90 : decode cX5_knits 90 = .ok (.iaload, 1) := by decide +kernel
theorem dX5_knits_91 : decode cX5_knits 91 = .ok (.iload_n 2, 1) := by decide +kernel
theorem dX5_knits_92 : decode cX5_knits 92 = .ok (.iadd, 1) := by decide +kernel
theorem dX5_knits_93 : decode cX5_knits 93 = .ok (.iastore, 1) := by decide +kernel
theorem dX5_knits_94 : decode cX5_knits 94 = .ok (.iload_n 2, 1) := by decide +kernel
theorem dX5_knits_95 : decode cX5_knits 95 = .ok (.ireturn, 1) := by decide +kernel
theorem dX5_reasonFor_0 : decode cX5_reasonFor 0 = .ok (.aload_n 0, 1) := by decide +kernel
theorem dX5_reasonFor_1 : decode cX5_reasonFor 1 = .ok (.iload_n 1, 1) := by decide +kernel
theorem dX5_reasonFor_2 : decode cX5_reasonFor 2 = .ok (.iconst 1, 1) := by decide +kernel
theorem dX5_reasonFor_3 : decode cX5_reasonFor 3 = .ok (.invokevirtual 50, 3) := by decide +kernel
theorem dX5_reasonFor_6 : decode cX5_reasonFor 6 = .ok (.bipush 16, 2) := by decide +kernel
theorem dX5_reasonFor_8 : decode cX5_reasonFor 8 = .ok (.if_icmp .ne 7, 3) := by decide +kernel
theorem dX5_reasonFor_11 : decode cX5_reasonFor 11 = .ok (.iconst 3, 1) := by decide +kernel
theorem dX5_reasonFor_12 : decode cX5_reasonFor 12 = .ok (.goto 9, 3) := by decide +kernel
theorem dX5_reasonFor_15 : decode cX5_reasonFor 15 = .ok (.aload_n 0, 1) := by decide +kernel
theorem dX5_reasonFor_16 : decode cX5_reasonFor 16 = .ok (.iload_n 1, 1) := by decide +kernel
theorem dX5_reasonFor_17 : decode cX5_reasonFor 17 = .ok (.iload_n 2, 1) := by decide +kernel
theorem dX5_reasonFor_18 : decode cX5_reasonFor 18 = .ok (.invokevirtual 67, 3) := by decide +kernel
theorem dX5_reasonFor_21 : decode cX5_reasonFor 21 = .ok (.ireturn, 1) := by decide +kernel
theorem dX5_tiesPart_0 : decode cX5_tiesPart 0 = .ok (.aload_n 0, 1) := by decide +kernel
theorem dX5_tiesPart_1 : decode cX5_tiesPart 1 = .ok (.iload_n 1, 1) := by decide +kernel
theorem dX5_tiesPart_2 : decode cX5_tiesPart 2 = .ok (.iload_n 2, 1) := by decide +kernel
theorem dX5_tiesPart_3 : decode cX5_tiesPart 3 = .ok (.invokevirtual 70, 3) := by decide +kernel
theorem dX5_tiesPart_6 : decode cX5_tiesPart 6 = .ok (.istore_n 3, 1) := by decide +kernel
theorem dX5_tiesPart_7 : decode cX5_tiesPart 7 = .ok (.iload_n 3, 1) := by decide +kernel
theorem dX5_tiesPart_8 : decode cX5_tiesPart 8 = .ok (.ifCond .le 15, 3) := by decide +kernel
theorem dX5_tiesPart_11 : decode cX5_tiesPart 11 = .ok (.aload_n 0, 1) := by decide +kernel
theorem dX5_tiesPart_12 : decode cX5_tiesPart 12 = .ok (.getfield 7, 3) := by decide +kernel
theorem dX5_tiesPart_15 : decode cX5_tiesPart 15 = .ok (.iconst 4, 1) := by decide +kernel
theorem dX5_tiesPart_16 : decode cX5_tiesPart 16 = .ok (.dup2, 1) := by decide +kernel
theorem dX5_tiesPart_17 : decode cX5_tiesPart 17 = .ok (.iaload, 1) := by decide +kernel
theorem dX5_tiesPart_18 : decode cX5_tiesPart 18 = .ok (.iconst 1, 1) := by decide +kernel
theorem dX5_tiesPart_19 : decode cX5_tiesPart 19 = .ok (.iadd, 1) := by decide +kernel
theorem dX5_tiesPart_20 : decode cX5_tiesPart 20 = .ok (.iastore, 1) := by decide +kernel
theorem dX5_tiesPart_21 : decode cX5_tiesPart 21 = .ok (.iload_n 3, 1) := by decide +kernel
theorem dX5_tiesPart_22 : decode cX5_tiesPart 22 = .ok (.ireturn, 1) := by decide +kernel
theorem dX5_tiesPart_23 : decode cX5_tiesPart 23 = .ok (.aload_n 0, 1) := by decide +kernel
theorem dX5_tiesPart_24 : decode cX5_tiesPart 24 = .ok (.getfield 7, 3) := by decide +kernel
theorem dX5_tiesPart_27 : decode cX5_tiesPart 27 = .ok (.iload_n 1, 1) := by decide +kernel
theorem dX5_tiesPart_28 : decode cX5_tiesPart 28 = .ok (.iconst 3, 1) := by decide +kernel
theorem dX5_tiesPart_29 : decode cX5_tiesPart 29 = .ok (.aload_n 0, 1) := by decide +kernel
theorem dX5_tiesPart_30 : decode cX5_tiesPart 30 = .ok (.iload_n 1, 1) := by decide +kernel
theorem dX5_tiesPart_31 : decode cX5_tiesPart 31 = .ok (.iconst 1, 1) := by decide +kernel
theorem dX5_tiesPart_32 : decode cX5_tiesPart 32 = .ok (.invokevirtual 50, 3) := by decide +kernel
theorem dX5_tiesPart_35 : decode cX5_tiesPart 35 = .ok (.iadd, 1) := by decide +kernel
theorem dX5_tiesPart_36 : decode cX5_tiesPart 36 = .ok (.invokestatic 43, 3) := by decide +kernel
theorem dX5_tiesPart_39 : decode cX5_tiesPart 39 = .ok (.iload_n 2, 1) := by decide +kernel
theorem dX5_tiesPart_40 : decode cX5_tiesPart 40 = .ok (.iastore, 1) := by decide +kernel
theorem dX5_tiesPart_41 : decode cX5_tiesPart 41 = .ok (.aload_n 0, 1) := by decide +kernel
theorem dX5_tiesPart_42 : decode cX5_tiesPart 42 = .ok (.getfield 7, 3) := by decide +kernel
theorem dX5_tiesPart_45 : decode cX5_tiesPart 45 = .ok (.iload_n 1, 1) := by decide +kernel
theorem dX5_tiesPart_46 : decode cX5_tiesPart 46 = .ok (.iconst 1, 1) := by decide +kernel
theorem dX5_tiesPart_47 : decode cX5_tiesPart 47 = .ok (.invokestatic 43, 3) := by decide +kernel
theorem dX5_tiesPart_50 : decode cX5_tiesPart 50 = .ok (.dup2, 1) := by decide +kernel
theorem dX5_tiesPart_51 : decode cX5_tiesPart 51 = .ok (.iaload, 1) := by decide +kernel
theorem dX5_tiesPart_52 : decode cX5_tiesPart 52 = .ok (.iconst 1, 1) := by decide +kernel
theorem dX5_tiesPart_53 : decode cX5_tiesPart 53 = .ok (.iadd, 1) := by decide +kernel
theorem dX5_tiesPart_54 : decode cX5_tiesPart 54 = .ok (.iastore, 1) := by decide +kernel
theorem dX5_tiesPart_55 : decode cX5_tiesPart 55 = .ok (.bipush 10, 2) := by decide +kernel
theorem dX5_tiesPart_57 : decode cX5_tiesPart 57 = .ok (.aload_n 0, 1) := by decide +kernel
theorem dX5_tiesPart_58 : decode cX5_tiesPart 58 = .ok (.iload_n 1, 1) := by decide +kernel
theorem dX5_tiesPart_59 : decode cX5_tiesPart 59 = .ok (.invokevirtual 73, 3) := by decide +kernel
theorem dX5_tiesPart_62 : decode cX5_tiesPart 62 = .ok (.iadd, 1) := by decide +kernel
theorem dX5_tiesPart_63 : decode cX5_tiesPart 63 = .ok (.ireturn, 1) := by decide +kernel
theorem dX5_adds_0 : decode cX5_adds 0 = .ok (.aload_n 0, 1) := by decide +kernel
theorem dX5_adds_1 : decode cX5_adds 1 = .ok (.iload_n 1, 1) := by decide +kernel
theorem dX5_adds_2 : decode cX5_adds 2 = .ok (.invokevirtual 60, 3) := by decide +kernel
theorem dX5_adds_5 : decode cX5_adds 5 = .ok (.ifCond .ne 7, 3) := by decide +kernel
theorem dX5_adds_8 : decode cX5_adds 8 = .ok (.iconst 0, 1) := by decide +kernel
theorem dX5_adds_9 : decode cX5_adds 9 = .ok (.goto 13, 3) := by decide +kernel
theorem dX5_adds_12 : decode cX5_adds 12 = .ok (.aload_n 0, 1) := by decide +kernel
theorem dX5_adds_13 : decode cX5_adds 13 = .ok (.iload_n 2, 1) := by decide +kernel
theorem dX5_adds_14 : decode cX5_adds 14 = .ok (.aload_n 0, 1) := by decide +kernel
theorem dX5_adds_15 : decode cX5_adds 15 = .ok (.iload_n 1, 1) := by decide +kernel
theorem dX5_adds_16 : decode cX5_adds 16 = .ok (.invokevirtual 60, 3) := by decide +kernel
theorem dX5_adds_19 : decode cX5_adds 19 = .ok (.invokevirtual 76, 3) := by decide +kernel
theorem dX5_adds_22 : decode cX5_adds 22 = .ok (.ireturn, 1) := by decide +kernel
theorem dX5_slips_0 : decode cX5_slips 0 = .ok (.aload_n 0, 1) := by decide +kernel
theorem dX5_slips_1 : decode cX5_slips 1 = .ok (.iload_n 1, 1) := by decide +kernel
theorem dX5_slips_2 : decode cX5_slips 2 = .ok (.iload_n 2, 1) := by decide +kernel
theorem dX5_slips_3 : decode cX5_slips 3 = .ok (.invokevirtual 53, 3) := by decide +kernel
theorem dX5_slips_6 : decode cX5_slips 6 = .ok (.ifCond .ne 15, 3) := by decide +kernel
theorem dX5_slips_9 : decode cX5_slips 9 = .ok (.aload_n 0, 1) := by decide +kernel
theorem dX5_slips_10 : decode cX5_slips 10 = .ok (.getfield 7, 3) := by decide +kernel
theorem dX5_slips_13 : decode cX5_slips 13 = .ok (.iconst 4, 1) := by decide +kernel
theorem dX5_slips_14 : decode cX5_slips 14 = .ok (.dup2, 1) := by decide +kernel
theorem dX5_slips_15 : decode cX5_slips 15 = .ok (.iaload, 1) := by decide +kernel
theorem dX5_slips_16 : decode cX5_slips 16 = .ok (.iconst 1, 1) := by decide +kernel
theorem dX5_slips_17 : decode cX5_slips 17 = .ok (.iadd, 1) := by decide +kernel
theorem dX5_slips_18 : decode cX5_slips 18 = .ok (.iastore, 1) := by decide +kernel
theorem dX5_slips_19 : decode cX5_slips 19 = .ok (.iconst (-1), 1) := by decide +kernel
theorem dX5_slips_20 : decode cX5_slips 20 = .ok (.ireturn, 1) := by decide +kernel
theorem dX5_slips_21 : decode cX5_slips 21 = .ok (.aload_n 0, 1) := by decide +kernel
theorem dX5_slips_22 : decode cX5_slips 22 = .ok (.getfield 7, 3) := by decide +kernel
theorem dX5_slips_25 : decode cX5_slips 25 = .ok (.iload_n 1, 1) := by decide +kernel
theorem dX5_slips_26 : decode cX5_slips 26 = .ok (.bipush 19, 2) := by decide +kernel
theorem dX5_slips_28 : decode cX5_slips 28 = .ok (.iload_n 2, 1) := by decide +kernel
theorem dX5_slips_29 : decode cX5_slips 29 = .ok (.iadd, 1) := by decide +kernel
theorem dX5_slips_30 : decode cX5_slips 30 = .ok (.invokestatic 43, 3) := by decide +kernel
theorem dX5_slips_33 : decode cX5_slips 33 = .ok (.dup2, 1) := by decide +kernel
theorem dX5_slips_34 : decode cX5_slips 34 = .ok (.iaload, 1) := by decide +kernel
theorem dX5_slips_35 : decode cX5_slips 35 = .ok (.iconst 1, 1) := by decide +kernel
theorem dX5_slips_36 : decode cX5_slips 36 = .ok (.isub, 1) := by decide +kernel
theorem dX5_slips_37 : decode cX5_slips 37 = .ok (.iastore, 1) := by decide +kernel
theorem dX5_slips_38 : decode cX5_slips 38 = .ok (.aload_n 0, 1) := by decide +kernel
theorem dX5_slips_39 : decode cX5_slips 39 = .ok (.getfield 7, 3) := by decide +kernel
theorem dX5_slips_42 : decode cX5_slips 42 = .ok (.iload_n 1, 1) := by decide +kernel
theorem dX5_slips_43 : decode cX5_slips 43 = .ok (.iconst 2, 1) := by decide +kernel
theorem dX5_slips_44 : decode cX5_slips 44 = .ok (.invokestatic 43, 3) := by decide +kernel
theorem dX5_slips_47 : decode cX5_slips 47 = .ok (.dup2, 1) := by decide +kernel
theorem dX5_slips_48 : decode cX5_slips 48 = .ok (.iaload, 1) := by decide +kernel
theorem dX5_slips_49 : decode cX5_slips 49 = .ok (.iconst 1, 1) := by decide +kernel
theorem dX5_slips_50 : decode cX5_slips 50 = .ok (.iadd, 1) := by decide +kernel
theorem dX5_slips_51 : decode cX5_slips 51 = .ok (.iastore, 1) := by decide +kernel
theorem dX5_slips_52 : decode cX5_slips 52 = .ok (.aload_n 0, 1) := by decide +kernel
theorem dX5_slips_53 : decode cX5_slips 53 = .ok (.getfield 7, 3) := by decide +kernel
theorem dX5_slips_56 : decode cX5_slips 56 = .ok (.iconst 2, 1) := by decide +kernel
theorem dX5_slips_57 : decode cX5_slips 57 = .ok (.dup2, 1) := by decide +kernel
theorem dX5_slips_58 : decode cX5_slips 58 = .ok (.iaload, 1) := by decide +kernel
theorem dX5_slips_59 : decode cX5_slips 59 = .ok (.iconst 1, 1) := by decide +kernel
theorem dX5_slips_60 : decode cX5_slips 60 = .ok (.iadd, 1) := by decide +kernel
theorem dX5_slips_61 : decode cX5_slips 61 = .ok (.iastore, 1) := by decide +kernel
theorem dX5_slips_62 : decode cX5_slips 62 = .ok (.aload_n 0, 1) := by decide +kernel
theorem dX5_slips_63 : decode cX5_slips 63 = .ok (.iload_n 1, 1) := by decide +kernel
theorem dX5_slips_64 : decode cX5_slips 64 = .ok (.iload_n 2, 1) := by decide +kernel
theorem dX5_slips_65 : decode cX5_slips 65 = .ok (.invokevirtual 53, 3) := by decide +kernel
theorem dX5_slips_68 : decode cX5_slips 68 = .ok (.ireturn, 1) := by decide +kernel
theorem dX5_mends_0 : decode cX5_mends 0 = .ok (.aload_n 0, 1) := by decide +kernel
theorem dX5_mends_1 : decode cX5_mends 1 = .ok (.iload_n 1, 1) := by decide +kernel
theorem dX5_mends_2 : decode cX5_mends 2 = .ok (.invokevirtual 79, 3) := by decide +kernel
theorem dX5_mends_5 : decode cX5_mends 5 = .ok (.istore_n 2, 1) := by decide +kernel
theorem dX5_mends_6 : decode cX5_mends 6 = .ok (.iload_n 2, 1) := by decide +kernel
theorem dX5_mends_7 : decode cX5_mends 7 = .ok (.ifCond .ne 7, 3) := by decide +kernel
theorem dX5_mends_10 : decode cX5_mends 10 = .ok (.iconst 0, 1) := by decide +kernel
theorem dX5_mends_11 : decode cX5_mends 11 = .ok (.goto 9, 3) := by decide +kernel
theorem dX5_mends_14 : decode cX5_mends 14 = .ok (.aload_n 0, 1) := by decide +kernel
theorem dX5_mends_15 : decode cX5_mends 15 = .ok (.iload_n 1, 1) := by decide +kernel
theorem dX5_mends_16 : decode cX5_mends 16 = .ok (.iload_n 2, 1) := by decide +kernel
theorem dX5_mends_17 : decode cX5_mends 17 = .ok (.invokevirtual 67, 3) := by decide +kernel
theorem dX5_mends_20 : decode cX5_mends 20 = .ok (.istore_n 3, 1) := by decide +kernel
theorem dX5_mends_21 : decode cX5_mends 21 = .ok (.iload_n 3, 1) := by decide +kernel
theorem dX5_mends_22 : decode cX5_mends 22 = .ok (.ifCond .le 16, 3) := by decide +kernel
theorem dX5_mends_25 : decode cX5_mends 25 = .ok (.aload_n 0, 1) := by decide +kernel
theorem dX5_mends_26 : decode cX5_mends 26 = .ok (.getfield 7, 3) := by decide +kernel
theorem dX5_mends_29 : decode cX5_mends 29 = .ok (.iconst 4, 1) := by decide +kernel
theorem dX5_mends_30 : decode cX5_mends 30 = .ok (.dup2, 1) := by decide +kernel
theorem dX5_mends_31 : decode cX5_mends 31 = .ok (.iaload, 1) := by decide +kernel
theorem dX5_mends_32 : decode cX5_mends 32 = .ok (.iconst 1, 1) := by decide +kernel
theorem dX5_mends_33 : decode cX5_mends 33 = .ok (.iadd, 1) := by decide +kernel
theorem dX5_mends_34 : decode cX5_mends 34 = .ok (.iastore, 1) := by decide +kernel
theorem dX5_mends_35 : decode cX5_mends 35 = .ok (.iload_n 3, 1) := by decide +kernel
theorem dX5_mends_36 : decode cX5_mends 36 = .ok (.ineg, 1) := by decide +kernel
theorem dX5_mends_37 : decode cX5_mends 37 = .ok (.ireturn, 1) := by decide +kernel
theorem dX5_mends_38 : decode cX5_mends 38 = .ok (.iload_n 2, 1) := by decide +kernel
theorem dX5_mends_39 : decode cX5_mends 39 = .ok (.ifCond .ne 7, 3) := by decide +kernel
theorem dX5_mends_42 : decode cX5_mends 42 = .ok (.iconst 0, 1) := by decide +kernel
theorem dX5_mends_43 : decode cX5_mends 43 = .ok (.goto 8, 3) := by decide +kernel
theorem dX5_mends_46 : decode cX5_mends 46 = .ok (.aload_n 0, 1) := by decide +kernel
theorem dX5_mends_47 : decode cX5_mends 47 = .ok (.iload_n 1, 1) := by decide +kernel
theorem dX5_mends_48 : decode cX5_mends 48 = .ok (.invokevirtual 73, 3) := by decide +kernel
theorem dX5_mends_51 : decode cX5_mends 51 = .ok (.istore 4, 2) := by decide +kernel
theorem dX5_mends_53 : decode cX5_mends 53 = .ok (.iload_n 2, 1) := by decide +kernel
theorem dX5_mends_54 : decode cX5_mends 54 = .ok (.ireturn, 1) := by decide +kernel
theorem dX5_tie_0 : decode cX5_tie 0 = .ok (.aload_n 0, 1) := by decide +kernel
theorem dX5_tie_1 : decode cX5_tie 1 = .ok (.iload_n 1, 1) := by decide +kernel
theorem dX5_tie_2 : decode cX5_tie 2 = .ok (.invokestatic 82, 3) := by decide +kernel
theorem dX5_tie_5 : decode cX5_tie 5 = .ok (.ifCond .ne 7, 3) := by decide +kernel
theorem dX5_tie_8 : decode cX5_tie 8 = .ok (.iconst 1, 1) := by decide +kernel
theorem dX5_tie_9 : decode cX5_tie 9 = .ok (.goto 18, 3) := by decide +kernel
theorem dX5_tie_12 : decode cX5_tie 12 = .ok (.iload_n 2, 1) := by decide +kernel
theorem dX5_tie_13 : decode cX5_tie 13 = .ok (.iconst 1, 1) := by decide +kernel
theorem dX5_tie_14 : decode cX5_tie 14 = .ok (.ldc 66, 2) := by decide +kernel
theorem dX5_tie_16 : decode cX5_tie 16 = .ok (.invokestatic 39, 3) := by decide +kernel
theorem dX5_tie_19 : decode cX5_tie 19 = .ok (.ifCond .ne 7, 3) := by decide +kernel
theorem dX5_tie_22 : decode cX5_tie 22 = .ok (.iconst 2, 1) := by decide +kernel
theorem dX5_tie_23 : decode cX5_tie 23 = .ok (.goto 4, 3) := by decide +kernel
theorem dX5_tie_26 : decode cX5_tie 26 = .ok (.iconst 0, 1) := by decide +kernel
theorem dX5_tie_27 : decode cX5_tie 27 = .ok (.invokevirtual 86, 3) := by decide +kernel
theorem dX5_tie_30 : decode cX5_tie 30 = .ok (.ifCond .ne 5, 3) := by decide +kernel
theorem dX5_tie_33 : decode cX5_tie 33 = .ok (.iconst 0, 1) := by decide +kernel
theorem dX5_tie_34 : decode cX5_tie 34 = .ok (.ireturn, 1) := by decide +kernel
theorem dX5_tie_35 : decode cX5_tie 35 = .ok (.aload_n 0, 1) := by decide +kernel
theorem dX5_tie_36 : decode cX5_tie 36 = .ok (.invokevirtual 89, 3) := by decide +kernel
theorem dX5_tie_39 : decode cX5_tie 39 = .ok (.aload_n 0, 1) := by decide +kernel
theorem dX5_tie_40 : decode cX5_tie 40 = .ok (.iload_n 1, 1) := by decide +kernel
theorem dX5_tie_41 : decode cX5_tie 41 = .ok (.iload_n 2, 1) := by decide +kernel
theorem dX5_tie_42 : decode cX5_tie 42 = .ok (.invokevirtual 76, 3) := by decide +kernel
theorem dX5_tie_45 : decode cX5_tie 45 = .ok (.ireturn, 1) := by decide +kernel
theorem dX5_add_0 : decode cX5_add 0 = .ok (.aload_n 0, 1) := by decide +kernel
theorem dX5_add_1 : decode cX5_add 1 = .ok (.iload_n 1, 1) := by decide +kernel
theorem dX5_add_2 : decode cX5_add 2 = .ok (.invokestatic 82, 3) := by decide +kernel
theorem dX5_add_5 : decode cX5_add 5 = .ok (.ifCond .eq 10, 3) := by decide +kernel
theorem dX5_add_8 : decode cX5_add 8 = .ok (.iload_n 2, 1) := by decide +kernel
theorem dX5_add_9 : decode cX5_add 9 = .ok (.invokestatic 82, 3) := by decide +kernel
theorem dX5_add_12 : decode cX5_add 12 = .ok (.ifCond .ne 7, 3) := by decide +kernel
theorem dX5_add_15 : decode cX5_add 15 = .ok (.iconst 1, 1) := by decide +kernel
theorem dX5_add_16 : decode cX5_add 16 = .ok (.goto 13, 3) := by decide +kernel
theorem dX5_add_19 : decode cX5_add 19 = .ok (.iload_n 1, 1) := by decide +kernel
theorem dX5_add_20 : decode cX5_add 20 = .ok (.iload_n 2, 1) := by decide +kernel
theorem dX5_add_21 : decode cX5_add 21 = .ok (.if_icmp .ne 7, 3) := by decide +kernel
theorem dX5_add_24 : decode cX5_add 24 = .ok (.iconst 2, 1) := by decide +kernel
theorem dX5_add_25 : decode cX5_add 25 = .ok (.goto 4, 3) := by decide +kernel
theorem dX5_add_28 : decode cX5_add 28 = .ok (.iconst 0, 1) := by decide +kernel
theorem dX5_add_29 : decode cX5_add 29 = .ok (.invokevirtual 86, 3) := by decide +kernel
theorem dX5_add_32 : decode cX5_add 32 = .ok (.ifCond .ne 5, 3) := by decide +kernel
theorem dX5_add_35 : decode cX5_add 35 = .ok (.iconst 0, 1) := by decide +kernel
theorem dX5_add_36 : decode cX5_add 36 = .ok (.ireturn, 1) := by decide +kernel
theorem dX5_add_37 : decode cX5_add 37 = .ok (.aload_n 0, 1) := by decide +kernel
theorem dX5_add_38 : decode cX5_add 38 = .ok (.invokevirtual 89, 3) := by decide +kernel
theorem dX5_add_41 : decode cX5_add 41 = .ok (.aload_n 0, 1) := by decide +kernel
theorem dX5_add_42 : decode cX5_add 42 = .ok (.iload_n 1, 1) := by decide +kernel
theorem dX5_add_43 : decode cX5_add 43 = .ok (.iload_n 2, 1) := by decide +kernel
theorem dX5_add_44 : decode cX5_add 44 = .ok (.invokevirtual 92, 3) := by decide +kernel
theorem dX5_add_47 : decode cX5_add 47 = .ok (.ireturn, 1) := by decide +kernel
theorem dX5_slip_0 : decode cX5_slip 0 = .ok (.aload_n 0, 1) := by decide +kernel
theorem dX5_slip_1 : decode cX5_slip 1 = .ok (.iload_n 1, 1) := by decide +kernel
theorem dX5_slip_2 : decode cX5_slip 2 = .ok (.invokestatic 82, 3) := by decide +kernel
theorem dX5_slip_5 : decode cX5_slip 5 = .ok (.ifCond .eq 16, 3) := by decide +kernel
theorem dX5_slip_8 : decode cX5_slip 8 = .ok (.iload_n 2, 1) := by decide +kernel
theorem dX5_slip_9 : decode cX5_slip 9 = .ok (.iconst 0, 1) := by decide +kernel
theorem dX5_slip_10 : decode cX5_slip 10 = .ok (.iconst 5, 1) := by decide +kernel
theorem dX5_slip_11 : decode cX5_slip 11 = .ok (.invokestatic 39, 3) := by decide +kernel
theorem dX5_slip_14 : decode cX5_slip 14 = .ok (.ifCond .eq 7, 3) := by decide +kernel
theorem dX5_slip_17 : decode cX5_slip 17 = .ok (.iconst 0, 1) := by decide +kernel
theorem dX5_slip_18 : decode cX5_slip 18 = .ok (.goto 4, 3) := by decide +kernel
theorem dX5_slip_21 : decode cX5_slip 21 = .ok (.iconst 1, 1) := by decide +kernel
theorem dX5_slip_22 : decode cX5_slip 22 = .ok (.invokevirtual 86, 3) := by decide +kernel
theorem dX5_slip_25 : decode cX5_slip 25 = .ok (.ifCond .ne 5, 3) := by decide +kernel
theorem dX5_slip_28 : decode cX5_slip 28 = .ok (.iconst 0, 1) := by decide +kernel
theorem dX5_slip_29 : decode cX5_slip 29 = .ok (.ireturn, 1) := by decide +kernel
theorem dX5_slip_30 : decode cX5_slip 30 = .ok (.aload_n 0, 1) := by decide +kernel
theorem dX5_slip_31 : decode cX5_slip 31 = .ok (.invokevirtual 89, 3) := by decide +kernel
theorem dX5_slip_34 : decode cX5_slip 34 = .ok (.aload_n 0, 1) := by decide +kernel
theorem dX5_slip_35 : decode cX5_slip 35 = .ok (.iload_n 1, 1) := by decide +kernel
theorem dX5_slip_36 : decode cX5_slip 36 = .ok (.iload_n 2, 1) := by decide +kernel
theorem dX5_slip_37 : decode cX5_slip 37 = .ok (.invokevirtual 95, 3) := by decide +kernel
theorem dX5_slip_40 : decode cX5_slip 40 = .ok (.ireturn, 1) := by decide +kernel
theorem dX5_mend_0 : decode cX5_mend 0 = .ok (.aload_n 0, 1) := by decide +kernel
theorem dX5_mend_1 : decode cX5_mend 1 = .ok (.iload_n 1, 1) := by decide +kernel
theorem dX5_mend_2 : decode cX5_mend 2 = .ok (.invokestatic 82, 3) := by decide +kernel
theorem dX5_mend_5 : decode cX5_mend 5 = .ok (.ifCond .eq 7, 3) := by decide +kernel
theorem dX5_mend_8 : decode cX5_mend 8 = .ok (.iconst 0, 1) := by decide +kernel
theorem dX5_mend_9 : decode cX5_mend 9 = .ok (.goto 4, 3) := by decide +kernel
theorem dX5_mend_12 : decode cX5_mend 12 = .ok (.iconst 1, 1) := by decide +kernel
theorem dX5_mend_13 : decode cX5_mend 13 = .ok (.invokevirtual 86, 3) := by decide +kernel
theorem dX5_mend_16 : decode cX5_mend 16 = .ok (.ifCond .ne 5, 3) := by decide +kernel
theorem dX5_mend_19 : decode cX5_mend 19 = .ok (.iconst 0, 1) := by decide +kernel
theorem dX5_mend_20 : decode cX5_mend 20 = .ok (.ireturn, 1) := by decide +kernel
theorem dX5_mend_21 : decode cX5_mend 21 = .ok (.aload_n 0, 1) := by decide +kernel
theorem dX5_mend_22 : decode cX5_mend 22 = .ok (.invokevirtual 89, 3) := by decide +kernel
theorem dX5_mend_25 : decode cX5_mend 25 = .ok (.aload_n 0, 1) := by decide +kernel
theorem dX5_mend_26 : decode cX5_mend 26 = .ok (.iload_n 1, 1) := by decide +kernel
theorem dX5_mend_27 : decode cX5_mend 27 = .ok (.invokevirtual 98, 3) := by decide +kernel
theorem dX5_mend_30 : decode cX5_mend 30 = .ok (.ireturn, 1) := by decide +kernel
theorem dX5_renew_0 : decode cX5_renew 0 = .ok (.aload_n 0, 1) := by decide +kernel
theorem dX5_renew_1 : decode cX5_renew 1 = .ok (.iload_n 1, 1) := by decide +kernel
theorem dX5_renew_2 : decode cX5_renew 2 = .ok (.invokestatic 82, 3) := by decide +kernel
theorem dX5_renew_5 : decode cX5_renew 5 = .ok (.ifCond .eq 7, 3) := by decide +kernel
theorem dX5_renew_8 : decode cX5_renew 8 = .ok (.iconst 0, 1) := by decide +kernel
theorem dX5_renew_9 : decode cX5_renew 9 = .ok (.goto 4, 3) := by decide +kernel
theorem dX5_renew_12 : decode cX5_renew 12 = .ok (.iconst 1, 1) := by decide +kernel
theorem dX5_renew_13 : decode cX5_renew 13 = .ok (.invokevirtual 86, 3) := by decide +kernel
theorem dX5_renew_16 : decode cX5_renew 16 = .ok (.ifCond .ne 5, 3) := by decide +kernel
theorem dX5_renew_19 : decode cX5_renew 19 = .ok (.iconst 0, 1) := by decide +kernel
theorem dX5_renew_20 : decode cX5_renew 20 = .ok (.ireturn, 1) := by decide +kernel
theorem dX5_renew_21 : decode cX5_renew 21 = .ok (.aload_n 0, 1) := by decide +kernel
theorem dX5_renew_22 : decode cX5_renew 22 = .ok (.invokevirtual 89, 3) := by decide +kernel
theorem dX5_renew_25 : decode cX5_renew 25 = .ok (.aload_n 0, 1) := by decide +kernel
theorem dX5_renew_26 : decode cX5_renew 26 = .ok (.iload_n 1, 1) := by decide +kernel
theorem dX5_renew_27 : decode cX5_renew 27 = .ok (.invokevirtual 60, 3) := by decide +kernel
theorem dX5_renew_30 : decode cX5_renew 30 = .ok (.istore_n 2, 1) := by decide +kernel
theorem dX5_renew_31 : decode cX5_renew 31 = .ok (.aload_n 0, 1) := by decide +kernel
theorem dX5_renew_32 : decode cX5_renew 32 = .ok (.getfield 7, 3) := by decide +kernel
theorem dX5_renew_35 : decode cX5_renew 35 = .ok (.iconst 3, 1) := by decide +kernel
theorem dX5_renew_36 : decode cX5_renew 36 = .ok (.dup2, 1) := by decide +kernel
theorem dX5_renew_37 : decode cX5_renew 37 = .ok (.iaload, 1) := by decide +kernel
theorem dX5_renew_38 : decode cX5_renew 38 = .ok (.aload_n 0, 1) := by decide +kernel
theorem dX5_renew_39 : decode cX5_renew 39 = .ok (.iload_n 1, 1) := by decide +kernel
theorem dX5_renew_40 : decode cX5_renew 40 = .ok (.invokevirtual 63, 3) := by decide +kernel
theorem dX5_renew_43 : decode cX5_renew 43 = .ok (.iadd, 1) := by decide +kernel
theorem dX5_renew_44 : decode cX5_renew 44 = .ok (.iastore, 1) := by decide +kernel
theorem dX5_renew_45 : decode cX5_renew 45 = .ok (.iconst 1, 1) := by decide +kernel
theorem dX5_renew_46 : decode cX5_renew 46 = .ok (.istore_n 3, 1) := by decide +kernel
theorem dX5_renew_47 : decode cX5_renew 47 = .ok (.iload_n 3, 1) := by decide +kernel
theorem dX5_renew_48 : decode cX5_renew 48 = .ok (.bipush 31, 2) := by decide +kernel
theorem dX5_renew_50 : decode cX5_renew 50 = .ok (.if_icmp .ge 20, 3) := by decide +kernel
theorem dX5_renew_53 : decode cX5_renew 53 = .ok (.aload_n 0, 1) := by decide +kernel
theorem dX5_renew_54 : decode cX5_renew 54 = .ok (.getfield 7, 3) := by decide +kernel
theorem dX5_renew_57 : decode cX5_renew 57 = .ok (.iload_n 1, 1) := by decide +kernel
theorem dX5_renew_58 : decode cX5_renew 58 = .ok (.iload_n 3, 1) := by decide +kernel
theorem dX5_renew_59 : decode cX5_renew 59 = .ok (.invokestatic 43, 3) := by decide +kernel
theorem dX5_renew_62 : decode cX5_renew 62 = .ok (.iconst 0, 1) := by decide +kernel
theorem dX5_renew_63 : decode cX5_renew 63 = .ok (.iastore, 1) := by decide +kernel
theorem dX5_renew_64 : decode cX5_renew 64 = .ok (.iinc 3 1, 3) := by decide +kernel
theorem dX5_renew_67 : decode cX5_renew 67 = .ok (.goto (-20), 3) := by decide +kernel
theorem dX5_renew_70 : decode cX5_renew 70 = .ok (.iload_n 2, 1) := by decide +kernel
theorem dX5_renew_71 : decode cX5_renew 71 = .ok (.ireturn, 1) := by decide +kernel
theorem dX5_puts_0 : decode cX5_puts 0 = .ok (.aload_n 0, 1) := by decide +kernel
theorem dX5_puts_1 : decode cX5_puts 1 = .ok (.invokevirtual 89, 3) := by decide +kernel
theorem dX5_puts_4 : decode cX5_puts 4 = .ok (.aload_n 0, 1) := by decide +kernel
theorem dX5_puts_5 : decode cX5_puts 5 = .ok (.getfield 7, 3) := by decide +kernel
theorem dX5_puts_8 : decode cX5_puts 8 = .ok (.iload_n 1, 1) := by decide +kernel
theorem dX5_puts_9 : decode cX5_puts 9 = .ok (.iaload, 1) := by decide +kernel
theorem dX5_puts_10 : decode cX5_puts 10 = .ok (.istore_n 3, 1) := by decide +kernel
theorem dX5_puts_11 : decode cX5_puts 11 = .ok (.aload_n 0, 1) := by decide +kernel
theorem dX5_puts_12 : decode cX5_puts 12 = .ok (.getfield 7, 3) := by decide +kernel
theorem dX5_puts_15 : decode cX5_puts 15 = .ok (.iload_n 1, 1) := by decide +kernel
theorem dX5_puts_16 : decode cX5_puts 16 = .ok (.iload_n 2, 1) := by decide +kernel
theorem dX5_puts_17 : decode cX5_puts 17 = .ok (.iastore, 1) := by decide +kernel
theorem dX5_puts_18 : decode cX5_puts 18 = .ok (.iload_n 3, 1) := by decide +kernel
theorem dX5_puts_19 : decode cX5_puts 19 = .ok (.ireturn, 1) := by decide +kernel
theorem dX5_dye_0 : decode cX5_dye 0 = .ok (.aload_n 0, 1) := by decide +kernel
theorem dX5_dye_1 : decode cX5_dye 1 = .ok (.iload_n 1, 1) := by decide +kernel
theorem dX5_dye_2 : decode cX5_dye 2 = .ok (.invokestatic 82, 3) := by decide +kernel
theorem dX5_dye_5 : decode cX5_dye 5 = .ok (.ifCond .ne 7, 3) := by decide +kernel
theorem dX5_dye_8 : decode cX5_dye 8 = .ok (.iconst 1, 1) := by decide +kernel
theorem dX5_dye_9 : decode cX5_dye 9 = .ok (.goto 17, 3) := by decide +kernel
theorem dX5_dye_12 : decode cX5_dye 12 = .ok (.iload_n 2, 1) := by decide +kernel
theorem dX5_dye_13 : decode cX5_dye 13 = .ok (.iconst 0, 1) := by decide +kernel
theorem dX5_dye_14 : decode cX5_dye 14 = .ok (.iconst 5, 1) := by decide +kernel
theorem dX5_dye_15 : decode cX5_dye 15 = .ok (.invokestatic 39, 3) := by decide +kernel
theorem dX5_dye_18 : decode cX5_dye 18 = .ok (.ifCond .ne 7, 3) := by decide +kernel
theorem dX5_dye_21 : decode cX5_dye 21 = .ok (.iconst 2, 1) := by decide +kernel
theorem dX5_dye_22 : decode cX5_dye 22 = .ok (.goto 4, 3) := by decide +kernel
theorem dX5_dye_25 : decode cX5_dye 25 = .ok (.iconst 0, 1) := by decide +kernel
theorem dX5_dye_26 : decode cX5_dye 26 = .ok (.invokevirtual 86, 3) := by decide +kernel
theorem dX5_dye_29 : decode cX5_dye 29 = .ok (.ifCond .eq 16, 3) := by decide +kernel
theorem dX5_dye_32 : decode cX5_dye 32 = .ok (.aload_n 0, 1) := by decide +kernel
theorem dX5_dye_33 : decode cX5_dye 33 = .ok (.iload_n 1, 1) := by decide +kernel
theorem dX5_dye_34 : decode cX5_dye 34 = .ok (.iconst 0, 1) := by decide +kernel
theorem dX5_dye_35 : decode cX5_dye 35 = .ok (.invokestatic 43, 3) := by decide +kernel
theorem dX5_dye_38 : decode cX5_dye 38 = .ok (.iload_n 2, 1) := by decide +kernel
theorem dX5_dye_39 : decode cX5_dye 39 = .ok (.invokevirtual 101, 3) := by decide +kernel
theorem dX5_dye_42 : decode cX5_dye 42 = .ok (.goto 4, 3) := by decide +kernel
theorem dX5_dye_45 : decode cX5_dye 45 = .ok (.iconst 0, 1) := by decide +kernel
theorem dX5_dye_46 : decode cX5_dye 46 = .ok (.ireturn, 1) := by decide +kernel
theorem dX5_set_0 : decode cX5_set 0 = .ok (.aload_n 0, 1) := by decide +kernel
theorem dX5_set_1 : decode cX5_set 1 = .ok (.iload_n 1, 1) := by decide +kernel
theorem dX5_set_2 : decode cX5_set 2 = .ok (.bipush 20, 2) := by decide +kernel
theorem dX5_set_4 : decode cX5_set 4 = .ok (.bipush 99, 2) := by decide +kernel
theorem dX5_set_6 : decode cX5_set 6 = .ok (.invokestatic 39, 3) := by decide +kernel
theorem dX5_set_9 : decode cX5_set 9 = .ok (.ifCond .eq 7, 3) := by decide +kernel
theorem dX5_set_12 : decode cX5_set 12 = .ok (.iconst 0, 1) := by decide +kernel
theorem dX5_set_13 : decode cX5_set 13 = .ok (.goto 4, 3) := by decide +kernel
theorem dX5_set_16 : decode cX5_set 16 = .ok (.iconst 1, 1) := by decide +kernel
theorem dX5_set_17 : decode cX5_set 17 = .ok (.invokevirtual 86, 3) := by decide +kernel
theorem dX5_set_20 : decode cX5_set 20 = .ok (.ifCond .eq 12, 3) := by decide +kernel
theorem dX5_set_23 : decode cX5_set 23 = .ok (.aload_n 0, 1) := by decide +kernel
theorem dX5_set_24 : decode cX5_set 24 = .ok (.iconst 5, 1) := by decide +kernel
theorem dX5_set_25 : decode cX5_set 25 = .ok (.iload_n 1, 1) := by decide +kernel
theorem dX5_set_26 : decode cX5_set 26 = .ok (.invokevirtual 101, 3) := by decide +kernel
theorem dX5_set_29 : decode cX5_set 29 = .ok (.goto 4, 3) := by decide +kernel
theorem dX5_set_32 : decode cX5_set 32 = .ok (.iconst 0, 1) := by decide +kernel
theorem dX5_set_33 : decode cX5_set 33 = .ok (.ireturn, 1) := by decide +kernel
theorem dX5_append_0 : decode cX5_append 0 = .ok (.aload_n 0, 1) := by decide +kernel
theorem dX5_append_1 : decode cX5_append 1 = .ok (.iload_n 1, 1) := by decide +kernel
theorem dX5_append_2 : decode cX5_append 2 = .ok (.bipush 33, 2) := by decide +kernel
theorem dX5_append_4 : decode cX5_append 4 = .ok (.bipush 126, 2) := by decide +kernel
theorem dX5_append_6 : decode cX5_append 6 = .ok (.invokestatic 39, 3) := by decide +kernel
theorem dX5_append_9 : decode cX5_append 9 = .ok (.ifCond .ne 7, 3) := by decide +kernel
theorem dX5_append_12 : decode cX5_append 12 = .ok (.iconst 1, 1) := by decide +kernel
theorem dX5_append_13 : decode cX5_append 13 = .ok (.goto 17, 3) := by decide +kernel
theorem dX5_append_16 : decode cX5_append 16 = .ok (.aload_n 0, 1) := by decide +kernel
theorem dX5_append_17 : decode cX5_append 17 = .ok (.getfield 104, 3) := by decide +kernel
theorem dX5_append_20 : decode cX5_append 20 = .ok (.bipush 60, 2) := by decide +kernel
theorem dX5_append_22 : decode cX5_append 22 = .ok (.if_icmp .ne 7, 3) := by decide +kernel
theorem dX5_append_25 : decode cX5_append 25 = .ok (.iconst 2, 1) := by decide +kernel
theorem dX5_append_26 : decode cX5_append 26 = .ok (.goto 4, 3) := by decide +kernel
theorem dX5_append_29 : decode cX5_append 29 = .ok (.iconst 0, 1) := by decide +kernel
theorem dX5_append_30 : decode cX5_append 30 = .ok (.invokevirtual 86, 3) := by decide +kernel
theorem dX5_append_33 : decode cX5_append 33 = .ok (.ifCond .ne 5, 3) := by decide +kernel
theorem dX5_append_36 : decode cX5_append 36 = .ok (.iconst 0, 1) := by decide +kernel
theorem dX5_append_37 : decode cX5_append 37 = .ok (.ireturn, 1) := by decide +kernel
theorem dX5_append_38 : decode cX5_append 38 = .ok (.aload_n 0, 1) := by decide +kernel
theorem dX5_append_39 : decode cX5_append 39 = .ok (.getfield 26, 3) := by decide +kernel
theorem dX5_append_42 : decode cX5_append 42 = .ok (.aload_n 0, 1) := by decide +kernel
theorem dX5_append_43 : decode cX5_append 43 = .ok (.getfield 104, 3) := by decide +kernel
theorem dX5_append_46 : decode cX5_append 46 = .ok (.iload_n 1, 1) := by decide +kernel
theorem dX5_append_47 : decode cX5_append 47 = .ok (.iastore, 1) := by decide +kernel
theorem dX5_append_48 : decode cX5_append 48 = .ok (.aload_n 0, 1) := by decide +kernel
theorem dX5_append_49 : decode cX5_append 49 = .ok (.dup, 1) := by decide +kernel
theorem dX5_append_50 : decode cX5_append 50 = .ok (.getfield 104, 3) := by decide +kernel
theorem dX5_append_53 : decode cX5_append 53 = .ok (.iconst 1, 1) := by decide +kernel
theorem dX5_append_54 : decode cX5_append 54 = .ok (.iadd, 1) := by decide +kernel
theorem dX5_append_55 : decode cX5_append 55 = .ok (.putfield 104, 3) := by decide +kernel
theorem dX5_append_58 : decode cX5_append 58 = .ok (.aload_n 0, 1) := by decide +kernel
theorem dX5_append_59 : decode cX5_append 59 = .ok (.getfield 104, 3) := by decide +kernel
theorem dX5_append_62 : decode cX5_append 62 = .ok (.ireturn, 1) := by decide +kernel
theorem dX5_clearBuffer_0 : decode cX5_clearBuffer 0 = .ok (.aload_n 0, 1) := by decide +kernel
theorem dX5_clearBuffer_1 : decode cX5_clearBuffer 1 = .ok (.iconst 0, 1) := by decide +kernel
theorem dX5_clearBuffer_2 : decode cX5_clearBuffer 2 = .ok (.putfield 35, 3) := by decide +kernel
theorem dX5_clearBuffer_5 : decode cX5_clearBuffer 5 = .ok (.aload_n 0, 1) := by decide +kernel
theorem dX5_clearBuffer_6 : decode cX5_clearBuffer 6 = .ok (.getfield 104, 3) := by decide +kernel
theorem dX5_clearBuffer_9 : decode cX5_clearBuffer 9 = .ok (.istore_n 1, 1) := by decide +kernel
theorem dX5_clearBuffer_10 : decode cX5_clearBuffer 10 = .ok (.aload_n 0, 1) := by decide +kernel
theorem dX5_clearBuffer_11 : decode cX5_clearBuffer 11 = .ok (.iconst 0, 1) := by decide +kernel
theorem dX5_clearBuffer_12 : decode cX5_clearBuffer 12 = .ok (.putfield 104, 3) := by decide +kernel
theorem dX5_clearBuffer_15 : decode cX5_clearBuffer 15 = .ok (.iload_n 1, 1) := by decide +kernel
theorem dX5_clearBuffer_16 : decode cX5_clearBuffer 16 = .ok (.ireturn, 1) := by decide +kernel
theorem dX5_charAt_0 : decode cX5_charAt 0 = .ok (.iload_n 1, 1) := by decide +kernel
theorem dX5_charAt_1 : decode cX5_charAt 1 = .ok (.aload_n 0, 1) := by decide +kernel
theorem dX5_charAt_2 : decode cX5_charAt 2 = .ok (.getfield 104, 3) := by decide +kernel
theorem dX5_charAt_5 : decode cX5_charAt 5 = .ok (.if_icmp .ge 12, 3) := by decide +kernel
theorem dX5_charAt_8 : decode cX5_charAt 8 = .ok (.aload_n 0, 1) := by decide +kernel
theorem dX5_charAt_9 : decode cX5_charAt 9 = .ok (.getfield 26, 3) := by decide +kernel
theorem dX5_charAt_12 : decode cX5_charAt 12 = .ok (.iload_n 1, 1) := by decide +kernel
theorem dX5_charAt_13 : decode cX5_charAt 13 = .ok (.iaload, 1) := by decide +kernel
theorem dX5_charAt_14 : decode cX5_charAt 14 = .ok (.goto 4, 3) := by decide +kernel
theorem dX5_charAt_17 : decode cX5_charAt 17 = .ok (.iconst 0, 1) := by decide +kernel
theorem dX5_charAt_18 : decode cX5_charAt 18 = .ok (.ireturn, 1) := by decide +kernel
theorem dX5_digitAt_0 : decode cX5_digitAt 0 = .ok (.aload_n 0, 1) := by decide +kernel
theorem dX5_digitAt_1 : decode cX5_digitAt 1 = .ok (.iload_n 1, 1) := by decide +kernel
theorem dX5_digitAt_2 : decode cX5_digitAt 2 = .ok (.invokevirtual 107, 3) := by decide +kernel
theorem dX5_digitAt_5 : decode cX5_digitAt 5 = .ok (.bipush 48, 2) := by decide +kernel
theorem dX5_digitAt_7 : decode cX5_digitAt 7 = .ok (.isub, 1) := by decide +kernel
theorem dX5_digitAt_8 : decode cX5_digitAt 8 = .ok (.ireturn, 1) := by decide +kernel
theorem dX5_behindNumber_0 : decode cX5_behindNumber 0 = .ok (.iload_n 1, 1) := by decide +kernel
theorem dX5_behindNumber_1 : decode cX5_behindNumber 1 = .ok (.istore_n 2, 1) := by decide +kernel
theorem dX5_behindNumber_2 : decode cX5_behindNumber 2 = .ok (.iload_n 2, 1) := by decide +kernel
theorem dX5_behindNumber_3 : decode cX5_behindNumber 3 = .ok (.iload_n 1, 1) := by decide +kernel
theorem dX5_behindNumber_4 : decode cX5_behindNumber 4 = .ok (.bipush 6, 2) := by decide +kernel
theorem dX5_behindNumber_6 : decode cX5_behindNumber 6 = .ok (.iadd, 1) := by decide +kernel
theorem dX5_behindNumber_7 : decode cX5_behindNumber 7 = .ok (.if_icmp .ge 32, 3) := by decide +kernel
theorem dX5_behindNumber_10 : decode cX5_behindNumber 10 = .ok (.aload_n 0, 1) := by decide +kernel
theorem dX5_behindNumber_11 : decode cX5_behindNumber 11 = .ok (.iload_n 2, 1) := by decide +kernel
theorem dX5_behindNumber_12 : decode cX5_behindNumber 12 = .ok (.invokevirtual 110, 3) := by decide +kernel
theorem dX5_behindNumber_15 : decode cX5_behindNumber 15 = .ok (.iload_n 2, 1) := by decide +kernel
theorem dX5_behindNumber_16 : decode cX5_behindNumber 16 = .ok (.iload_n 1, 1) := by decide +kernel
theorem dX5_behindNumber_17 : decode cX5_behindNumber 17 = .ok (.if_icmp .ne 7, 3) := by decide +kernel
theorem dX5_behindNumber_20 : decode cX5_behindNumber 20 = .ok (.iconst 1, 1) := by decide +kernel
theorem dX5_behindNumber_21 : decode cX5_behindNumber 21 = .ok (.goto 4, 3) := by decide +kernel
theorem dX5_behindNumber_24 : decode cX5_behindNumber 24 = .ok (.iconst 0, 1) := by decide +kernel
theorem dX5_behindNumber_25 : decode cX5_behindNumber 25 = .ok (.bipush 9, 2) := by decide +kernel
theorem dX5_behindNumber_27 : decode cX5_behindNumber 27 = .ok (.invokestatic 39, 3) := by decide +kernel
theorem dX5_behindNumber_30 : decode cX5_behindNumber 30 = .ok (.ifCond .eq 9, 3) := by decide +kernel
theorem dX5_behindNumber_33 : decode cX5_behindNumber 33 = .ok (.iinc 2 1, 3) := by decide +kernel
theorem dX5_behindNumber_36 : decode cX5_behindNumber 36 = .ok (.goto (-34), 3) := by decide +kernel
theorem dX5_behindNumber_39 : decode cX5_behindNumber 39 = .ok (.iload_n 2, 1) := by decide +kernel
theorem dX5_behindNumber_40 : decode cX5_behindNumber 40 = .ok (.ireturn, 1) := by decide +kernel
theorem dX5_behindOrder_0 : decode cX5_behindOrder 0 = .ok (.aload_n 0, 1) := by decide +kernel
theorem dX5_behindOrder_1 : decode cX5_behindOrder 1 = .ok (.iload_n 1, 1) := by decide +kernel
theorem dX5_behindOrder_2 : decode cX5_behindOrder 2 = .ok (.invokevirtual 110, 3) := by decide +kernel
theorem dX5_behindOrder_5 : decode cX5_behindOrder 5 = .ok (.istore_n 2, 1) := by decide +kernel
theorem dX5_behindOrder_6 : decode cX5_behindOrder 6 = .ok (.iload_n 2, 1) := by decide +kernel
theorem dX5_behindOrder_7 : decode cX5_behindOrder 7 = .ok (.invokestatic 82, 3) := by decide +kernel
theorem dX5_behindOrder_10 : decode cX5_behindOrder 10 = .ok (.ifCond .ne 7, 3) := by decide +kernel
theorem dX5_behindOrder_13 : decode cX5_behindOrder 13 = .ok (.iconst (-1), 1) := by decide +kernel
theorem dX5_behindOrder_14 : decode cX5_behindOrder 14 = .ok (.iload_n 1, 1) := by decide +kernel
theorem dX5_behindOrder_15 : decode cX5_behindOrder 15 = .ok (.isub, 1) := by decide +kernel
theorem dX5_behindOrder_16 : decode cX5_behindOrder 16 = .ok (.ireturn, 1) := by decide +kernel
theorem dX5_behindOrder_17 : decode cX5_behindOrder 17 = .ok (.aload_n 0, 1) := by decide +kernel
theorem dX5_behindOrder_18 : decode cX5_behindOrder 18 = .ok (.iload_n 1, 1) := by decide +kernel
theorem dX5_behindOrder_19 : decode cX5_behindOrder 19 = .ok (.iconst 1, 1) := by decide +kernel
theorem dX5_behindOrder_20 : decode cX5_behindOrder 20 = .ok (.iadd, 1) := by decide +kernel
theorem dX5_behindOrder_21 : decode cX5_behindOrder 21 = .ok (.invokevirtual 107, 3) := by decide +kernel
theorem dX5_behindOrder_24 : decode cX5_behindOrder 24 = .ok (.lookupswitch 121 #[(43, 36), (62, 60), (126, 95)], 36) := by decide +kernel
theorem dX5_behindOrder_60 : decode cX5_behindOrder 60 = .ok (.aload_n 0, 1) := by decide +kernel
theorem dX5_behindOrder_61 : decode cX5_behindOrder 61 = .ok (.iload_n 1, 1) := by decide +kernel
theorem dX5_behindOrder_62 : decode cX5_behindOrder 62 = .ok (.iconst 2, 1) := by decide +kernel
theorem dX5_behindOrder_63 : decode cX5_behindOrder 63 = .ok (.iadd, 1) := by decide +kernel
theorem dX5_behindOrder_64 : decode cX5_behindOrder 64 = .ok (.invokevirtual 113, 3) := by decide +kernel
theorem dX5_behindOrder_67 : decode cX5_behindOrder 67 = .ok (.istore_n 3, 1) := by decide +kernel
theorem dX5_behindOrder_68 : decode cX5_behindOrder 68 = .ok (.iload_n 3, 1) := by decide +kernel
theorem dX5_behindOrder_69 : decode cX5_behindOrder 69 = .ok (.iload_n 1, 1) := by decide +kernel
theorem dX5_behindOrder_70 : decode cX5_behindOrder 70 = .ok (.iconst 2, 1) := by decide +kernel
theorem dX5_behindOrder_71 : decode cX5_behindOrder 71 = .ok (.iadd, 1) := by decide +kernel
theorem dX5_behindOrder_72 : decode cX5_behindOrder 72 = .ok (.if_icmp .ne 10, 3) := by decide +kernel
theorem dX5_behindOrder_75 : decode cX5_behindOrder 75 = .ok (.bipush (-3), 2) := by decide +kernel
theorem dX5_behindOrder_77 : decode cX5_behindOrder 77 = .ok (.iload_n 1, 1) := by decide +kernel
theorem dX5_behindOrder_78 : decode cX5_behindOrder 78 = .ok (.isub, 1) := by decide +kernel
theorem dX5_behindOrder_79 : decode cX5_behindOrder 79 = .ok (.goto 4, 3) := by decide +kernel
theorem dX5_behindOrder_82 : decode cX5_behindOrder 82 = .ok (.iload_n 3, 1) := by decide +kernel
theorem dX5_behindOrder_83 : decode cX5_behindOrder 83 = .ok (.ireturn, 1) := by decide +kernel
theorem dX5_behindOrder_84 : decode cX5_behindOrder 84 = .ok (.aload_n 0, 1) := by decide +kernel
theorem dX5_behindOrder_85 : decode cX5_behindOrder 85 = .ok (.iload_n 1, 1) := by decide +kernel
theorem dX5_behindOrder_86 : decode cX5_behindOrder 86 = .ok (.iconst 2, 1) := by decide +kernel
theorem dX5_behindOrder_87 : decode cX5_behindOrder 87 = .ok (.iadd, 1) := by decide +kernel
theorem dX5_behindOrder_88 : decode cX5_behindOrder 88 = .ok (.invokevirtual 110, 3) := by decide +kernel
theorem dX5_behindOrder_91 : decode cX5_behindOrder 91 = .ok (.invokestatic 82, 3) := by decide +kernel
theorem dX5_behindOrder_94 : decode cX5_behindOrder 94 = .ok (.ifCond .eq 20, 3) := by decide +kernel
theorem dX5_behindOrder_97 : decode cX5_behindOrder 97 = .ok (.aload_n 0, 1) := by decide +kernel
theorem dX5_behindOrder_98 : decode cX5_behindOrder 98 = .ok (.iload_n 1, 1) := by decide +kernel
theorem dX5_behindOrder_99 : decode cX5_behindOrder 99 = .ok (.iconst 2, 1) := by decide +kernel
theorem dX5_behindOrder_100 : decode cX5_behindOrder 100 = .ok (.iadd, 1) := by decide +kernel
theorem dX5_behindOrder_101 : decode cX5_behindOrder 101 = .ok (.invokevirtual 110, 3) := by decide +kernel
theorem dX5_behindOrder_104 : decode cX5_behindOrder 104 = .ok (.iload_n 2, 1) := by decide +kernel
theorem dX5_behindOrder_105 : decode cX5_behindOrder 105 = .ok (.if_icmp .eq 9, 3) := by decide +kernel
theorem dX5_behindOrder_108 : decode cX5_behindOrder 108 = .ok (.iload_n 1, 1) := by decide +kernel
theorem dX5_behindOrder_109 : decode cX5_behindOrder 109 = .ok (.iconst 3, 1) := by decide +kernel
theorem dX5_behindOrder_110 : decode cX5_behindOrder 110 = .ok (.iadd, 1) := by decide +kernel
theorem dX5_behindOrder_111 : decode cX5_behindOrder 111 = .ok (.goto 7, 3) := by decide +kernel
theorem dX5_behindOrder_114 : decode cX5_behindOrder 114 = .ok (.bipush (-3), 2) := by decide +kernel
theorem dX5_behindOrder_116 : decode cX5_behindOrder 116 = .ok (.iload_n 1, 1) := by decide +kernel
theorem dX5_behindOrder_117 : decode cX5_behindOrder 117 = .ok (.isub, 1) := by decide +kernel
theorem dX5_behindOrder_118 : decode cX5_behindOrder 118 = .ok (.ireturn, 1) := by decide +kernel
theorem dX5_behindOrder_119 : decode cX5_behindOrder 119 = .ok (.aload_n 0, 1) := by decide +kernel
theorem dX5_behindOrder_120 : decode cX5_behindOrder 120 = .ok (.iload_n 1, 1) := by decide +kernel
theorem dX5_behindOrder_121 : decode cX5_behindOrder 121 = .ok (.iconst 2, 1) := by decide +kernel
theorem dX5_behindOrder_122 : decode cX5_behindOrder 122 = .ok (.iadd, 1) := by decide +kernel
theorem dX5_behindOrder_123 : decode cX5_behindOrder 123 = .ok (.invokevirtual 110, 3) := by decide +kernel
theorem dX5_behindOrder_126 : decode cX5_behindOrder 126 = .ok (.iconst 0, 1) := by decide +kernel
theorem dX5_behindOrder_127 : decode cX5_behindOrder 127 = .ok (.iconst 5, 1) := by decide +kernel
theorem dX5_behindOrder_128 : decode cX5_behindOrder 128 = .ok (.invokestatic 39, 3) := by decide +kernel
theorem dX5_behindOrder_131 : decode cX5_behindOrder 131 = .ok (.ifCond .eq 9, 3) := by decide +kernel
theorem dX5_behindOrder_134 : decode cX5_behindOrder 134 = .ok (.iload_n 1, 1) := by decide +kernel
theorem dX5_behindOrder_135 : decode cX5_behindOrder 135 = .ok (.iconst 3, 1) := by decide +kernel
theorem dX5_behindOrder_136 : decode cX5_behindOrder 136 = .ok (.iadd, 1) := by decide +kernel
theorem dX5_behindOrder_137 : decode cX5_behindOrder 137 = .ok (.goto 7, 3) := by decide +kernel
theorem dX5_behindOrder_140 : decode cX5_behindOrder 140 = .ok (.bipush (-3), 2) := by decide +kernel
theorem dX5_behindOrder_142 : decode cX5_behindOrder 142 = .ok (.iload_n 1, 1) := by decide +kernel
theorem dX5_behindOrder_143 : decode cX5_behindOrder 143 = .ok (.isub, 1) := by decide +kernel
theorem dX5_behindOrder_144 : decode cX5_behindOrder 144 = .ok (.ireturn, 1) := by decide +kernel
theorem dX5_behindOrder_145 : decode cX5_behindOrder 145 = .ok (.bipush (-2), 2) := by decide +kernel
theorem dX5_behindOrder_147 : decode cX5_behindOrder 147 = .ok (.iload_n 1, 1) := by decide +kernel
theorem dX5_behindOrder_148 : decode cX5_behindOrder 148 = .ok (.isub, 1) := by decide +kernel
theorem dX5_behindOrder_149 : decode cX5_behindOrder 149 = .ok (.ireturn, 1) := by decide +kernel
theorem dX5_wrong_0 : decode cX5_wrong 0 = .ok (.iconst 0, 1) := by decide +kernel
theorem dX5_wrong_1 : decode cX5_wrong 1 = .ok (.istore_n 1, 1) := by decide +kernel
theorem dX5_wrong_2 : decode cX5_wrong 2 = .ok (.iconst 1, 1) := by decide +kernel
theorem dX5_wrong_3 : decode cX5_wrong 3 = .ok (.istore_n 2, 1) := by decide +kernel
theorem dX5_wrong_4 : decode cX5_wrong 4 = .ok (.iload_n 2, 1) := by decide +kernel
theorem dX5_wrong_5 : decode cX5_wrong 5 = .ok (.ifCond .eq 63, 3) := by decide +kernel
theorem dX5_wrong_8 : decode cX5_wrong 8 = .ok (.aload_n 0, 1) := by decide +kernel
theorem dX5_wrong_9 : decode cX5_wrong 9 = .ok (.iload_n 1, 1) := by decide +kernel
theorem dX5_wrong_10 : decode cX5_wrong 10 = .ok (.invokevirtual 116, 3) := by decide +kernel
theorem dX5_wrong_13 : decode cX5_wrong 13 = .ok (.istore_n 1, 1) := by decide +kernel
theorem dX5_wrong_14 : decode cX5_wrong 14 = .ok (.iload_n 1, 1) := by decide +kernel
theorem dX5_wrong_15 : decode cX5_wrong 15 = .ok (.ifCond .ge 7, 3) := by decide +kernel
theorem dX5_wrong_18 : decode cX5_wrong 18 = .ok (.iconst (-1), 1) := by decide +kernel
theorem dX5_wrong_19 : decode cX5_wrong 19 = .ok (.iload_n 1, 1) := by decide +kernel
theorem dX5_wrong_20 : decode cX5_wrong 20 = .ok (.isub, 1) := by decide +kernel
theorem dX5_wrong_21 : decode cX5_wrong 21 = .ok (.ireturn, 1) := by decide +kernel
theorem dX5_wrong_22 : decode cX5_wrong 22 = .ok (.iload_n 1, 1) := by decide +kernel
theorem dX5_wrong_23 : decode cX5_wrong 23 = .ok (.aload_n 0, 1) := by decide +kernel
theorem dX5_wrong_24 : decode cX5_wrong 24 = .ok (.getfield 104, 3) := by decide +kernel
theorem dX5_wrong_27 : decode cX5_wrong 27 = .ok (.if_icmp .ge 7, 3) := by decide +kernel
theorem dX5_wrong_30 : decode cX5_wrong 30 = .ok (.iconst 1, 1) := by decide +kernel
theorem dX5_wrong_31 : decode cX5_wrong 31 = .ok (.goto 4, 3) := by decide +kernel
theorem dX5_wrong_34 : decode cX5_wrong 34 = .ok (.iconst 0, 1) := by decide +kernel
theorem dX5_wrong_35 : decode cX5_wrong 35 = .ok (.istore_n 2, 1) := by decide +kernel
theorem dX5_wrong_36 : decode cX5_wrong 36 = .ok (.iload_n 2, 1) := by decide +kernel
theorem dX5_wrong_37 : decode cX5_wrong 37 = .ok (.ifCond .eq 16, 3) := by decide +kernel
theorem dX5_wrong_40 : decode cX5_wrong 40 = .ok (.aload_n 0, 1) := by decide +kernel
theorem dX5_wrong_41 : decode cX5_wrong 41 = .ok (.getfield 26, 3) := by decide +kernel
theorem dX5_wrong_44 : decode cX5_wrong 44 = .ok (.iload_n 1, 1) := by decide +kernel
theorem dX5_wrong_45 : decode cX5_wrong 45 = .ok (.iaload, 1) := by decide +kernel
theorem dX5_wrong_46 : decode cX5_wrong 46 = .ok (.bipush 59, 2) := by decide +kernel
theorem dX5_wrong_48 : decode cX5_wrong 48 = .ok (.if_icmp .eq 5, 3) := by decide +kernel
theorem dX5_wrong_51 : decode cX5_wrong 51 = .ok (.iload_n 1, 1) := by decide +kernel
theorem dX5_wrong_52 : decode cX5_wrong 52 = .ok (.ireturn, 1) := by decide +kernel
theorem dX5_wrong_53 : decode cX5_wrong 53 = .ok (.iload_n 1, 1) := by decide +kernel
theorem dX5_wrong_54 : decode cX5_wrong 54 = .ok (.iload_n 2, 1) := by decide +kernel
theorem dX5_wrong_55 : decode cX5_wrong 55 = .ok (.ifCond .eq 7, 3) := by decide +kernel
theorem dX5_wrong_58 : decode cX5_wrong 58 = .ok (.iconst 1, 1) := by decide +kernel
theorem dX5_wrong_59 : decode cX5_wrong 59 = .ok (.goto 4, 3) := by decide +kernel
theorem dX5_wrong_62 : decode cX5_wrong 62 = .ok (.iconst 0, 1) := by decide +kernel
theorem dX5_wrong_63 : decode cX5_wrong 63 = .ok (.iadd, 1) := by decide +kernel
theorem dX5_wrong_64 : decode cX5_wrong 64 = .ok (.istore_n 1, 1) := by decide +kernel
theorem dX5_wrong_65 : decode cX5_wrong 65 = .ok (.goto (-61), 3) := by decide +kernel
theorem dX5_wrong_68 : decode cX5_wrong 68 = .ok (.iconst (-1), 1) := by decide +kernel
theorem dX5_wrong_69 : decode cX5_wrong 69 = .ok (.ireturn, 1) := by decide +kernel
theorem dX5_firstError_0 : decode cX5_firstError 0 = .ok (.aload_n 0, 1) := by decide +kernel
theorem dX5_firstError_1 : decode cX5_firstError 1 = .ok (.iconst 0, 1) := by decide +kernel
theorem dX5_firstError_2 : decode cX5_firstError 2 = .ok (.putfield 35, 3) := by decide +kernel
theorem dX5_firstError_5 : decode cX5_firstError 5 = .ok (.aload_n 0, 1) := by decide +kernel
theorem dX5_firstError_6 : decode cX5_firstError 6 = .ok (.invokevirtual 119, 3) := by decide +kernel
theorem dX5_firstError_9 : decode cX5_firstError 9 = .ok (.iconst (-1), 1) := by decide +kernel
theorem dX5_firstError_10 : decode cX5_firstError 10 = .ok (.if_icmp .ne 10, 3) := by decide +kernel
theorem dX5_firstError_13 : decode cX5_firstError 13 = .ok (.aload_n 0, 1) := by decide +kernel
theorem dX5_firstError_14 : decode cX5_firstError 14 = .ok (.getfield 104, 3) := by decide +kernel
theorem dX5_firstError_17 : decode cX5_firstError 17 = .ok (.goto 7, 3) := by decide +kernel
theorem dX5_firstError_20 : decode cX5_firstError 20 = .ok (.aload_n 0, 1) := by decide +kernel
theorem dX5_firstError_21 : decode cX5_firstError 21 = .ok (.invokevirtual 119, 3) := by decide +kernel
theorem dX5_firstError_24 : decode cX5_firstError 24 = .ok (.ireturn, 1) := by decide +kernel
theorem dX5_does_0 : decode cX5_does 0 = .ok (.aload_n 0, 1) := by decide +kernel
theorem dX5_does_1 : decode cX5_does 1 = .ok (.iload_n 1, 1) := by decide +kernel
theorem dX5_does_2 : decode cX5_does 2 = .ok (.invokevirtual 110, 3) := by decide +kernel
theorem dX5_does_5 : decode cX5_does 5 = .ok (.istore_n 3, 1) := by decide +kernel
theorem dX5_does_6 : decode cX5_does 6 = .ok (.aload_n 0, 1) := by decide +kernel
theorem dX5_does_7 : decode cX5_does 7 = .ok (.iload_n 1, 1) := by decide +kernel
theorem dX5_does_8 : decode cX5_does 8 = .ok (.iconst 1, 1) := by decide +kernel
theorem dX5_does_9 : decode cX5_does 9 = .ok (.iadd, 1) := by decide +kernel
theorem dX5_does_10 : decode cX5_does 10 = .ok (.invokevirtual 107, 3) := by decide +kernel
theorem dX5_does_13 : decode cX5_does 13 = .ok (.bipush 62, 2) := by decide +kernel
theorem dX5_does_15 : decode cX5_does 15 = .ok (.if_icmp .ne 35, 3) := by decide +kernel
theorem dX5_does_18 : decode cX5_does 18 = .ok (.aload_n 0, 1) := by decide +kernel
theorem dX5_does_19 : decode cX5_does 19 = .ok (.iload_n 3, 1) := by decide +kernel
theorem dX5_does_20 : decode cX5_does 20 = .ok (.aload_n 0, 1) := by decide +kernel
theorem dX5_does_21 : decode cX5_does 21 = .ok (.iload_n 1, 1) := by decide +kernel
theorem dX5_does_22 : decode cX5_does 22 = .ok (.iconst 2, 1) := by decide +kernel
theorem dX5_does_23 : decode cX5_does 23 = .ok (.iadd, 1) := by decide +kernel
theorem dX5_does_24 : decode cX5_does 24 = .ok (.invokevirtual 110, 3) := by decide +kernel
theorem dX5_does_27 : decode cX5_does 27 = .ok (.invokevirtual 92, 3) := by decide +kernel
theorem dX5_does_30 : decode cX5_does 30 = .ok (.istore 4, 2) := by decide +kernel
theorem dX5_does_32 : decode cX5_does 32 = .ok (.iload 4, 2) := by decide +kernel
theorem dX5_does_34 : decode cX5_does 34 = .ok (.ifCond .eq 10, 3) := by decide +kernel
theorem dX5_does_37 : decode cX5_does 37 = .ok (.iload 4, 2) := by decide +kernel
theorem dX5_does_39 : decode cX5_does 39 = .ok (.bipush 10, 2) := by decide +kernel
theorem dX5_does_41 : decode cX5_does 41 = .ok (.if_icmp .lt 7, 3) := by decide +kernel
theorem dX5_does_44 : decode cX5_does 44 = .ok (.iconst 1, 1) := by decide +kernel
theorem dX5_does_45 : decode cX5_does 45 = .ok (.goto 4, 3) := by decide +kernel
theorem dX5_does_48 : decode cX5_does 48 = .ok (.iconst 0, 1) := by decide +kernel
theorem dX5_does_49 : decode cX5_does 49 = .ok (.ireturn, 1) := by decide +kernel
theorem dX5_does_50 : decode cX5_does 50 = .ok (.aload_n 0, 1) := by decide +kernel
theorem dX5_does_51 : decode cX5_does 51 = .ok (.iload_n 1, 1) := by decide +kernel
theorem dX5_does_52 : decode cX5_does 52 = .ok (.iconst 1, 1) := by decide +kernel
theorem dX5_does_53 : decode cX5_does 53 = .ok (.iadd, 1) := by decide +kernel
theorem dX5_does_54 : decode cX5_does 54 = .ok (.invokevirtual 107, 3) := by decide +kernel
theorem dX5_does_57 : decode cX5_does 57 = .ok (.bipush 126, 2) := by decide +kernel
theorem dX5_does_59 : decode cX5_does 59 = .ok (.if_icmp .ne 25, 3) := by decide +kernel
theorem dX5_does_62 : decode cX5_does 62 = .ok (.aload_n 0, 1) := by decide +kernel
theorem dX5_does_63 : decode cX5_does 63 = .ok (.iload_n 3, 1) := by decide +kernel
theorem dX5_does_64 : decode cX5_does 64 = .ok (.aload_n 0, 1) := by decide +kernel
theorem dX5_does_65 : decode cX5_does 65 = .ok (.iload_n 1, 1) := by decide +kernel
theorem dX5_does_66 : decode cX5_does 66 = .ok (.iconst 2, 1) := by decide +kernel
theorem dX5_does_67 : decode cX5_does 67 = .ok (.iadd, 1) := by decide +kernel
theorem dX5_does_68 : decode cX5_does 68 = .ok (.invokevirtual 110, 3) := by decide +kernel
theorem dX5_does_71 : decode cX5_does 71 = .ok (.invokevirtual 95, 3) := by decide +kernel
theorem dX5_does_74 : decode cX5_does 74 = .ok (.iconst (-1), 1) := by decide +kernel
theorem dX5_does_75 : decode cX5_does 75 = .ok (.if_icmp .eq 7, 3) := by decide +kernel
theorem dX5_does_78 : decode cX5_does 78 = .ok (.iconst 1, 1) := by decide +kernel
theorem dX5_does_79 : decode cX5_does 79 = .ok (.goto 4, 3) := by decide +kernel
theorem dX5_does_82 : decode cX5_does 82 = .ok (.iconst 0, 1) := by decide +kernel
theorem dX5_does_83 : decode cX5_does 83 = .ok (.ireturn, 1) := by decide +kernel
theorem dX5_does_84 : decode cX5_does 84 = .ok (.iconst 0, 1) := by decide +kernel
theorem dX5_does_85 : decode cX5_does 85 = .ok (.istore 4, 2) := by decide +kernel
theorem dX5_does_87 : decode cX5_does 87 = .ok (.iload_n 1, 1) := by decide +kernel
theorem dX5_does_88 : decode cX5_does 88 = .ok (.iconst 2, 1) := by decide +kernel
theorem dX5_does_89 : decode cX5_does 89 = .ok (.iadd, 1) := by decide +kernel
theorem dX5_does_90 : decode cX5_does 90 = .ok (.istore 5, 2) := by decide +kernel
theorem dX5_does_92 : decode cX5_does 92 = .ok (.iload 5, 2) := by decide +kernel
theorem dX5_does_94 : decode cX5_does 94 = .ok (.iload_n 2, 1) := by decide +kernel
theorem dX5_does_95 : decode cX5_does 95 = .ok (.if_icmp .ge 23, 3) := by decide +kernel
theorem dX5_does_98 : decode cX5_does 98 = .ok (.bipush 10, 2) := by decide +kernel
theorem dX5_does_100 : decode cX5_does 100 = .ok (.iload 4, 2) := by decide +kernel
theorem dX5_does_102 : decode cX5_does 102 = .ok (.imul, 1) := by decide +kernel
theorem dX5_does_103 : decode cX5_does 103 = .ok (.aload_n 0, 1) := by decide +kernel
theorem dX5_does_104 : decode cX5_does 104 = .ok (.iload 5, 2) := by decide +kernel
theorem dX5_does_106 : decode cX5_does 106 = .ok (.invokevirtual 110, 3) := by decide +kernel
theorem dX5_does_109 : decode cX5_does 109 = .ok (.iadd, 1) := by decide +kernel
theorem dX5_does_110 : decode cX5_does 110 = .ok (.istore 4, 2) := by decide +kernel
theorem dX5_does_112 : decode cX5_does 112 = .ok (.iinc 5 1, 3) := by decide +kernel
theorem dX5_does_115 : decode cX5_does 115 = .ok (.goto (-23), 3) := by decide +kernel
theorem dX5_does_118 : decode cX5_does 118 = .ok (.aload_n 0, 1) := by decide +kernel
theorem dX5_does_119 : decode cX5_does 119 = .ok (.iload_n 3, 1) := by decide +kernel
theorem dX5_does_120 : decode cX5_does 120 = .ok (.iload 4, 2) := by decide +kernel
theorem dX5_does_122 : decode cX5_does 122 = .ok (.invokevirtual 76, 3) := by decide +kernel
theorem dX5_does_125 : decode cX5_does 125 = .ok (.bipush 10, 2) := by decide +kernel
theorem dX5_does_127 : decode cX5_does 127 = .ok (.if_icmp .lt 7, 3) := by decide +kernel
theorem dX5_does_130 : decode cX5_does 130 = .ok (.iconst 1, 1) := by decide +kernel
theorem dX5_does_131 : decode cX5_does 131 = .ok (.goto 4, 3) := by decide +kernel
theorem dX5_does_134 : decode cX5_does 134 = .ok (.iconst 0, 1) := by decide +kernel
theorem dX5_does_135 : decode cX5_does 135 = .ok (.ireturn, 1) := by decide +kernel
theorem dX5_run_0 : decode cX5_run 0 = .ok (.aload_n 0, 1) := by decide +kernel
theorem dX5_run_1 : decode cX5_run 1 = .ok (.aload_n 0, 1) := by decide +kernel
theorem dX5_run_2 : decode cX5_run 2 = .ok (.invokevirtual 119, 3) := by decide +kernel
theorem dX5_run_5 : decode cX5_run 5 = .ok (.iconst (-1), 1) := by decide +kernel
theorem dX5_run_6 : decode cX5_run 6 = .ok (.if_icmp .ne 7, 3) := by decide +kernel
theorem dX5_run_9 : decode cX5_run 9 = .ok (.iconst 0, 1) := by decide +kernel
theorem dX5_run_10 : decode cX5_run 10 = .ok (.goto 4, 3) := by decide +kernel
theorem dX5_run_13 : decode cX5_run 13 = .ok (.iconst 1, 1) := by decide +kernel
theorem dX5_run_14 : decode cX5_run 14 = .ok (.invokevirtual 86, 3) := by decide +kernel
theorem dX5_run_17 : decode cX5_run 17 = .ok (.ifCond .ne 5, 3) := by decide +kernel
theorem dX5_run_20 : decode cX5_run 20 = .ok (.iconst 0, 1) := by decide +kernel
theorem dX5_run_21 : decode cX5_run 21 = .ok (.ireturn, 1) := by decide +kernel
theorem dX5_run_22 : decode cX5_run 22 = .ok (.aload_n 0, 1) := by decide +kernel
theorem dX5_run_23 : decode cX5_run 23 = .ok (.invokevirtual 89, 3) := by decide +kernel
theorem dX5_run_26 : decode cX5_run 26 = .ok (.iconst 0, 1) := by decide +kernel
theorem dX5_run_27 : decode cX5_run 27 = .ok (.istore_n 1, 1) := by decide +kernel
theorem dX5_run_28 : decode cX5_run 28 = .ok (.iconst 0, 1) := by decide +kernel
theorem dX5_run_29 : decode cX5_run 29 = .ok (.istore_n 2, 1) := by decide +kernel
theorem dX5_run_30 : decode cX5_run 30 = .ok (.iconst 1, 1) := by decide +kernel
theorem dX5_run_31 : decode cX5_run 31 = .ok (.istore_n 3, 1) := by decide +kernel
theorem dX5_run_32 : decode cX5_run 32 = .ok (.iload_n 3, 1) := by decide +kernel
theorem dX5_run_33 : decode cX5_run 33 = .ok (.ifCond .eq 46, 3) := by decide +kernel
theorem dX5_run_36 : decode cX5_run 36 = .ok (.iload_n 2, 1) := by decide +kernel
theorem dX5_run_37 : decode cX5_run 37 = .ok (.aload_n 0, 1) := by decide +kernel
theorem dX5_run_38 : decode cX5_run 38 = .ok (.getfield 104, 3) := by decide +kernel
theorem dX5_run_41 : decode cX5_run 41 = .ok (.if_icmp .ge 38, 3) := by decide +kernel
theorem dX5_run_44 : decode cX5_run 44 = .ok (.aload_n 0, 1) := by decide +kernel
theorem dX5_run_45 : decode cX5_run 45 = .ok (.iload_n 2, 1) := by decide +kernel
theorem dX5_run_46 : decode cX5_run 46 = .ok (.invokevirtual 116, 3) := by decide +kernel
theorem dX5_run_49 : decode cX5_run 49 = .ok (.istore 4, 2) := by decide +kernel
theorem dX5_run_51 : decode cX5_run 51 = .ok (.aload_n 0, 1) := by decide +kernel
theorem dX5_run_52 : decode cX5_run 52 = .ok (.iload_n 2, 1) := by decide +kernel
theorem dX5_run_53 : decode cX5_run 53 = .ok (.iload 4, 2) := by decide +kernel
theorem dX5_run_55 : decode cX5_run 55 = .ok (.invokevirtual 123, 3) := by decide +kernel
theorem dX5_run_58 : decode cX5_run 58 = .ok (.istore_n 3, 1) := by decide +kernel
theorem dX5_run_59 : decode cX5_run 59 = .ok (.iload_n 1, 1) := by decide +kernel
theorem dX5_run_60 : decode cX5_run 60 = .ok (.iload_n 3, 1) := by decide +kernel
theorem dX5_run_61 : decode cX5_run 61 = .ok (.ifCond .eq 7, 3) := by decide +kernel
theorem dX5_run_64 : decode cX5_run 64 = .ok (.iconst 1, 1) := by decide +kernel
theorem dX5_run_65 : decode cX5_run 65 = .ok (.goto 4, 3) := by decide +kernel
theorem dX5_run_68 : decode cX5_run 68 = .ok (.iconst 0, 1) := by decide +kernel
theorem dX5_run_69 : decode cX5_run 69 = .ok (.iadd, 1) := by decide +kernel
theorem dX5_run_70 : decode cX5_run 70 = .ok (.istore_n 1, 1) := by decide +kernel
theorem dX5_run_71 : decode cX5_run 71 = .ok (.iload 4, 2) := by decide +kernel
theorem dX5_run_73 : decode cX5_run 73 = .ok (.iconst 1, 1) := by decide +kernel
theorem dX5_run_74 : decode cX5_run 74 = .ok (.iadd, 1) := by decide +kernel
theorem dX5_run_75 : decode cX5_run 75 = .ok (.istore_n 2, 1) := by decide +kernel
theorem dX5_run_76 : decode cX5_run 76 = .ok (.goto (-44), 3) := by decide +kernel
theorem dX5_run_79 : decode cX5_run 79 = .ok (.aload_n 0, 1) := by decide +kernel
theorem dX5_run_80 : decode cX5_run 80 = .ok (.iconst 0, 1) := by decide +kernel
theorem dX5_run_81 : decode cX5_run 81 = .ok (.putfield 104, 3) := by decide +kernel
theorem dX5_run_84 : decode cX5_run 84 = .ok (.iload_n 1, 1) := by decide +kernel
theorem dX5_run_85 : decode cX5_run 85 = .ok (.ireturn, 1) := by decide +kernel
theorem dX5_keep_0 : decode cX5_keep 0 = .ok (.aload_n 0, 1) := by decide +kernel
theorem dX5_keep_1 : decode cX5_keep 1 = .ok (.iload_n 1, 1) := by decide +kernel
theorem dX5_keep_2 : decode cX5_keep 2 = .ok (.iconst 0, 1) := by decide +kernel
theorem dX5_keep_3 : decode cX5_keep 3 = .ok (.iconst 1, 1) := by decide +kernel
theorem dX5_keep_4 : decode cX5_keep 4 = .ok (.invokestatic 39, 3) := by decide +kernel
theorem dX5_keep_7 : decode cX5_keep 7 = .ok (.ifCond .eq 7, 3) := by decide +kernel
theorem dX5_keep_10 : decode cX5_keep 10 = .ok (.iconst 0, 1) := by decide +kernel
theorem dX5_keep_11 : decode cX5_keep 11 = .ok (.goto 4, 3) := by decide +kernel
theorem dX5_keep_14 : decode cX5_keep 14 = .ok (.iconst 1, 1) := by decide +kernel
theorem dX5_keep_15 : decode cX5_keep 15 = .ok (.invokevirtual 86, 3) := by decide +kernel
theorem dX5_keep_18 : decode cX5_keep 18 = .ok (.ifCond .ne 5, 3) := by decide +kernel
theorem dX5_keep_21 : decode cX5_keep 21 = .ok (.iconst 0, 1) := by decide +kernel
theorem dX5_keep_22 : decode cX5_keep 22 = .ok (.ireturn, 1) := by decide +kernel
theorem dX5_keep_23 : decode cX5_keep 23 = .ok (.iconst 0, 1) := by decide +kernel
theorem dX5_keep_24 : decode cX5_keep 24 = .ok (.istore_n 2, 1) := by decide +kernel
theorem dX5_keep_25 : decode cX5_keep 25 = .ok (.iload_n 2, 1) := by decide +kernel
theorem dX5_keep_26 : decode cX5_keep 26 = .ok (.sipush 223, 3) := by decide +kernel
theorem dX5_keep_29 : decode cX5_keep 29 = .ok (.if_icmp .ge 27, 3) := by decide +kernel
theorem dX5_keep_32 : decode cX5_keep 32 = .ok (.aload_n 0, 1) := by decide +kernel
theorem dX5_keep_33 : decode cX5_keep 33 = .ok (.getfield 16, 3) := by decide +kernel
theorem dX5_keep_36 : decode cX5_keep 36 = .ok (.sipush 223, 3) := by decide +kernel
theorem dX5_keep_39 : decode cX5_keep 39 = .ok (.iload_n 1, 1) := by decide +kernel
theorem dX5_keep_40 : decode cX5_keep 40 = .ok (.imul, 1) := by decide +kernel
theorem dX5_keep_41 : decode cX5_keep 41 = .ok (.iload_n 2, 1) := by decide +kernel
theorem dX5_keep_42 : decode cX5_keep 42 = .ok (.iadd, 1) := by decide +kernel
theorem dX5_keep_43 : decode cX5_keep 43 = .ok (.aload_n 0, 1) := by decide +kernel
theorem dX5_keep_44 : decode cX5_keep 44 = .ok (.getfield 7, 3) := by decide +kernel
theorem dX5_keep_47 : decode cX5_keep 47 = .ok (.iload_n 2, 1) := by decide +kernel
theorem dX5_keep_48 : decode cX5_keep 48 = .ok (.iaload, 1) := by decide +kernel
theorem dX5_keep_49 : decode cX5_keep 49 = .ok (.iastore, 1) := by decide +kernel
theorem dX5_keep_50 : decode cX5_keep 50 = .ok (.iinc 2 1, 3) := by decide +kernel
theorem dX5_keep_53 : decode cX5_keep 53 = .ok (.goto (-28), 3) := by decide +kernel
theorem dX5_keep_56 : decode cX5_keep 56 = .ok (.aload_n 0, 1) := by decide +kernel
theorem dX5_keep_57 : decode cX5_keep 57 = .ok (.getfield 19, 3) := by decide +kernel
theorem dX5_keep_60 : decode cX5_keep 60 = .ok (.iload_n 1, 1) := by decide +kernel
theorem dX5_keep_61 : decode cX5_keep 61 = .ok (.iconst 1, 1) := by decide +kernel
theorem dX5_keep_62 : decode cX5_keep 62 = .ok (.bastore, 1) := by decide +kernel
theorem dX5_keep_63 : decode cX5_keep 63 = .ok (.aload_n 0, 1) := by decide +kernel
theorem dX5_keep_64 : decode cX5_keep 64 = .ok (.invokevirtual 127, 3) := by decide +kernel
theorem dX5_keep_67 : decode cX5_keep 67 = .ok (.ireturn, 1) := by decide +kernel
theorem dX5_goBack_0 : decode cX5_goBack 0 = .ok (.iload_n 1, 1) := by decide +kernel
theorem dX5_goBack_1 : decode cX5_goBack 1 = .ok (.iconst 0, 1) := by decide +kernel
theorem dX5_goBack_2 : decode cX5_goBack 2 = .ok (.iconst 1, 1) := by decide +kernel
theorem dX5_goBack_3 : decode cX5_goBack 3 = .ok (.invokestatic 39, 3) := by decide +kernel
theorem dX5_goBack_6 : decode cX5_goBack 6 = .ok (.istore_n 2, 1) := by decide +kernel
theorem dX5_goBack_7 : decode cX5_goBack 7 = .ok (.aload_n 0, 1) := by decide +kernel
theorem dX5_goBack_8 : decode cX5_goBack 8 = .ok (.iload_n 2, 1) := by decide +kernel
theorem dX5_goBack_9 : decode cX5_goBack 9 = .ok (.ifCond .ne 7, 3) := by decide +kernel
theorem dX5_goBack_12 : decode cX5_goBack 12 = .ok (.iconst 1, 1) := by decide +kernel
theorem dX5_goBack_13 : decode cX5_goBack 13 = .ok (.goto 17, 3) := by decide +kernel
theorem dX5_goBack_16 : decode cX5_goBack 16 = .ok (.aload_n 0, 1) := by decide +kernel
theorem dX5_goBack_17 : decode cX5_goBack 17 = .ok (.getfield 19, 3) := by decide +kernel
theorem dX5_goBack_20 : decode cX5_goBack 20 = .ok (.iload_n 1, 1) := by decide +kernel
theorem dX5_goBack_21 : decode cX5_goBack 21 = .ok (.baload, 1) := by decide +kernel
theorem dX5_goBack_22 : decode cX5_goBack 22 = .ok (.ifCond .ne 7, 3) := by decide +kernel
theorem dX5_goBack_25 : decode cX5_goBack 25 = .ok (.iconst 2, 1) := by decide +kernel
theorem dX5_goBack_26 : decode cX5_goBack 26 = .ok (.goto 4, 3) := by decide +kernel
theorem dX5_goBack_29 : decode cX5_goBack 29 = .ok (.iconst 0, 1) := by decide +kernel
theorem dX5_goBack_30 : decode cX5_goBack 30 = .ok (.invokevirtual 86, 3) := by decide +kernel
theorem dX5_goBack_33 : decode cX5_goBack 33 = .ok (.ifCond .ne 5, 3) := by decide +kernel
theorem dX5_goBack_36 : decode cX5_goBack 36 = .ok (.iconst 0, 1) := by decide +kernel
theorem dX5_goBack_37 : decode cX5_goBack 37 = .ok (.ireturn, 1) := by decide +kernel
theorem dX5_goBack_38 : decode cX5_goBack 38 = .ok (.aload_n 0, 1) := by decide +kernel
theorem dX5_goBack_39 : decode cX5_goBack 39 = .ok (.invokevirtual 89, 3) := by decide +kernel
theorem dX5_goBack_42 : decode cX5_goBack 42 = .ok (.iconst 0, 1) := by decide +kernel
theorem dX5_goBack_43 : decode cX5_goBack 43 = .ok (.istore_n 3, 1) := by decide +kernel
theorem dX5_goBack_44 : decode cX5_goBack 44 = .ok (.iload_n 3, 1) := by decide +kernel
theorem dX5_goBack_45 : decode cX5_goBack 45 = .ok (.sipush 223, 3) := by decide +kernel
theorem dX5_goBack_48 : decode cX5_goBack 48 = .ok (.if_icmp .ge 27, 3) := by decide +kernel
theorem dX5_goBack_51 : decode cX5_goBack 51 = .ok (.aload_n 0, 1) := by decide +kernel
theorem dX5_goBack_52 : decode cX5_goBack 52 = .ok (.getfield 7, 3) := by decide +kernel
theorem dX5_goBack_55 : decode cX5_goBack 55 = .ok (.iload_n 3, 1) := by decide +kernel
theorem dX5_goBack_56 : decode cX5_goBack 56 = .ok (.aload_n 0, 1) := by decide +kernel
theorem dX5_goBack_57 : decode cX5_goBack 57 = .ok (.getfield 16, 3) := by decide +kernel
theorem dX5_goBack_60 : decode cX5_goBack 60 = .ok (.sipush 223, 3) := by decide +kernel
theorem dX5_goBack_63 : decode cX5_goBack 63 = .ok (.iload_n 1, 1) := by decide +kernel
theorem dX5_goBack_64 : decode cX5_goBack 64 = .ok (.imul, 1) := by decide +kernel
theorem dX5_goBack_65 : decode cX5_goBack 65 = .ok (.iload_n 3, 1) := by decide +kernel
theorem dX5_goBack_66 : decode cX5_goBack 66 = .ok (.iadd, 1) := by decide +kernel
theorem dX5_goBack_67 : decode cX5_goBack 67 = .ok (.iaload, 1) := by decide +kernel
theorem dX5_goBack_68 : decode cX5_goBack 68 = .ok (.iastore, 1) := by decide +kernel
theorem dX5_goBack_69 : decode cX5_goBack 69 = .ok (.iinc 3 1, 3) := by decide +kernel
theorem dX5_goBack_72 : decode cX5_goBack 72 = .ok (.goto (-28), 3) := by decide +kernel
theorem dX5_goBack_75 : decode cX5_goBack 75 = .ok (.aload_n 0, 1) := by decide +kernel
theorem dX5_goBack_76 : decode cX5_goBack 76 = .ok (.invokevirtual 127, 3) := by decide +kernel
theorem dX5_goBack_79 : decode cX5_goBack 79 = .ok (.ireturn, 1) := by decide +kernel
theorem dX5_undo_0 : decode cX5_undo 0 = .ok (.aload_n 0, 1) := by decide +kernel
theorem dX5_undo_1 : decode cX5_undo 1 = .ok (.aload_n 0, 1) := by decide +kernel
theorem dX5_undo_2 : decode cX5_undo 2 = .ok (.getfield 47, 3) := by decide +kernel
theorem dX5_undo_5 : decode cX5_undo 5 = .ok (.ifCond .le 7, 3) := by decide +kernel
theorem dX5_undo_8 : decode cX5_undo 8 = .ok (.iconst 0, 1) := by decide +kernel
theorem dX5_undo_9 : decode cX5_undo 9 = .ok (.goto 4, 3) := by decide +kernel
theorem dX5_undo_12 : decode cX5_undo 12 = .ok (.iconst 1, 1) := by decide +kernel
theorem dX5_undo_13 : decode cX5_undo 13 = .ok (.invokevirtual 86, 3) := by decide +kernel
theorem dX5_undo_16 : decode cX5_undo 16 = .ok (.ifCond .ne 5, 3) := by decide +kernel
theorem dX5_undo_19 : decode cX5_undo 19 = .ok (.iconst 0, 1) := by decide +kernel
theorem dX5_undo_20 : decode cX5_undo 20 = .ok (.ireturn, 1) := by decide +kernel
theorem dX5_undo_21 : decode cX5_undo 21 = .ok (.aload_n 0, 1) := by decide +kernel
theorem dX5_undo_22 : decode cX5_undo 22 = .ok (.dup, 1) := by decide +kernel
theorem dX5_undo_23 : decode cX5_undo 23 = .ok (.getfield 47, 3) := by decide +kernel
theorem dX5_undo_26 : decode cX5_undo 26 = .ok (.iconst 1, 1) := by decide +kernel
theorem dX5_undo_27 : decode cX5_undo 27 = .ok (.isub, 1) := by decide +kernel
theorem dX5_undo_28 : decode cX5_undo 28 = .ok (.putfield 47, 3) := by decide +kernel
theorem dX5_undo_31 : decode cX5_undo 31 = .ok (.iconst 0, 1) := by decide +kernel
theorem dX5_undo_32 : decode cX5_undo 32 = .ok (.istore_n 1, 1) := by decide +kernel
theorem dX5_undo_33 : decode cX5_undo 33 = .ok (.iload_n 1, 1) := by decide +kernel
theorem dX5_undo_34 : decode cX5_undo 34 = .ok (.sipush 223, 3) := by decide +kernel
theorem dX5_undo_37 : decode cX5_undo 37 = .ok (.if_icmp .ge 30, 3) := by decide +kernel
theorem dX5_undo_40 : decode cX5_undo 40 = .ok (.aload_n 0, 1) := by decide +kernel
theorem dX5_undo_41 : decode cX5_undo 41 = .ok (.getfield 7, 3) := by decide +kernel
theorem dX5_undo_44 : decode cX5_undo 44 = .ok (.iload_n 1, 1) := by decide +kernel
theorem dX5_undo_45 : decode cX5_undo 45 = .ok (.aload_n 0, 1) := by decide +kernel
theorem dX5_undo_46 : decode cX5_undo 46 = .ok (.getfield 23, 3) := by decide +kernel
theorem dX5_undo_49 : decode cX5_undo 49 = .ok (.sipush 223, 3) := by decide +kernel
theorem dX5_undo_52 : decode cX5_undo 52 = .ok (.aload_n 0, 1) := by decide +kernel
theorem dX5_undo_53 : decode cX5_undo 53 = .ok (.getfield 47, 3) := by decide +kernel
theorem dX5_undo_56 : decode cX5_undo 56 = .ok (.imul, 1) := by decide +kernel
theorem dX5_undo_57 : decode cX5_undo 57 = .ok (.iload_n 1, 1) := by decide +kernel
theorem dX5_undo_58 : decode cX5_undo 58 = .ok (.iadd, 1) := by decide +kernel
theorem dX5_undo_59 : decode cX5_undo 59 = .ok (.iaload, 1) := by decide +kernel
theorem dX5_undo_60 : decode cX5_undo 60 = .ok (.iastore, 1) := by decide +kernel
theorem dX5_undo_61 : decode cX5_undo 61 = .ok (.iinc 1 1, 3) := by decide +kernel
theorem dX5_undo_64 : decode cX5_undo 64 = .ok (.goto (-31), 3) := by decide +kernel
theorem dX5_undo_67 : decode cX5_undo 67 = .ok (.aload_n 0, 1) := by decide +kernel
theorem dX5_undo_68 : decode cX5_undo 68 = .ok (.getfield 47, 3) := by decide +kernel
theorem dX5_undo_71 : decode cX5_undo 71 = .ok (.ireturn, 1) := by decide +kernel
theorem dX5_loopsOf_0 : decode cX5_loopsOf 0 = .ok (.iconst 0, 1) := by decide +kernel
theorem dX5_loopsOf_1 : decode cX5_loopsOf 1 = .ok (.istore_n 2, 1) := by decide +kernel
theorem dX5_loopsOf_2 : decode cX5_loopsOf 2 = .ok (.iconst 0, 1) := by decide +kernel
theorem dX5_loopsOf_3 : decode cX5_loopsOf 3 = .ok (.istore_n 3, 1) := by decide +kernel
theorem dX5_loopsOf_4 : decode cX5_loopsOf 4 = .ok (.iload_n 3, 1) := by decide +kernel
theorem dX5_loopsOf_5 : decode cX5_loopsOf 5 = .ok (.bipush 6, 2) := by decide +kernel
theorem dX5_loopsOf_7 : decode cX5_loopsOf 7 = .ok (.if_icmp .ge 21, 3) := by decide +kernel
theorem dX5_loopsOf_10 : decode cX5_loopsOf 10 = .ok (.iload_n 2, 1) := by decide +kernel
theorem dX5_loopsOf_11 : decode cX5_loopsOf 11 = .ok (.aload_n 0, 1) := by decide +kernel
theorem dX5_loopsOf_12 : decode cX5_loopsOf 12 = .ok (.iload_n 1, 1) := by decide +kernel
theorem dX5_loopsOf_13 : decode cX5_loopsOf 13 = .ok (.bipush 25, 2) := by decide +kernel
theorem dX5_loopsOf_15 : decode cX5_loopsOf 15 = .ok (.iload_n 3, 1) := by decide +kernel
theorem dX5_loopsOf_16 : decode cX5_loopsOf 16 = .ok (.iadd, 1) := by decide +kernel
theorem dX5_loopsOf_17 : decode cX5_loopsOf 17 = .ok (.invokevirtual 50, 3) := by decide +kernel
theorem dX5_loopsOf_20 : decode cX5_loopsOf 20 = .ok (.iadd, 1) := by decide +kernel
theorem dX5_loopsOf_21 : decode cX5_loopsOf 21 = .ok (.istore_n 2, 1) := by decide +kernel
theorem dX5_loopsOf_22 : decode cX5_loopsOf 22 = .ok (.iinc 3 1, 3) := by decide +kernel
theorem dX5_loopsOf_25 : decode cX5_loopsOf 25 = .ok (.goto (-21), 3) := by decide +kernel
theorem dX5_loopsOf_28 : decode cX5_loopsOf 28 = .ok (.iload_n 2, 1) := by decide +kernel
theorem dX5_loopsOf_29 : decode cX5_loopsOf 29 = .ok (.ireturn, 1) := by decide +kernel
theorem dX5_number_0 : decode cX5_number 0 = .ok (.iload_n 2, 1) := by decide +kernel
theorem dX5_number_1 : decode cX5_number 1 = .ok (.tableswitch 87 0 6 #[43, 49, 55, 62, 68, 74, 80], 43) := by decide +kernel
theorem dX5_number_44 : decode cX5_number 44 = .ok (.aload_n 0, 1) := by decide +kernel
theorem dX5_number_45 : decode cX5_number 45 = .ok (.iload_n 1, 1) := by decide +kernel
theorem dX5_number_46 : decode cX5_number 46 = .ok (.invokevirtual 60, 3) := by decide +kernel
theorem dX5_number_49 : decode cX5_number 49 = .ok (.ireturn, 1) := by decide +kernel
theorem dX5_number_50 : decode cX5_number 50 = .ok (.aload_n 0, 1) := by decide +kernel
theorem dX5_number_51 : decode cX5_number 51 = .ok (.iload_n 1, 1) := by decide +kernel
theorem dX5_number_52 : decode cX5_number 52 = .ok (.invokevirtual 56, 3) := by decide +kernel
theorem dX5_number_55 : decode cX5_number 55 = .ok (.ireturn, 1) := by decide +kernel
theorem dX5_number_56 : decode cX5_number 56 = .ok (.aload_n 0, 1) := by decide +kernel
theorem dX5_number_57 : decode cX5_number 57 = .ok (.iload_n 1, 1) := by decide +kernel
theorem dX5_number_58 : decode cX5_number 58 = .ok (.iconst 1, 1) := by decide +kernel
theorem dX5_number_59 : decode cX5_number 59 = .ok (.invokevirtual 50, 3) := by decide +kernel
theorem dX5_number_62 : decode cX5_number 62 = .ok (.ireturn, 1) := by decide +kernel
theorem dX5_number_63 : decode cX5_number 63 = .ok (.aload_n 0, 1) := by decide +kernel
theorem dX5_number_64 : decode cX5_number 64 = .ok (.iload_n 1, 1) := by decide +kernel
theorem dX5_number_65 : decode cX5_number 65 = .ok (.invokevirtual 79, 3) := by decide +kernel
theorem dX5_number_68 : decode cX5_number 68 = .ok (.ireturn, 1) := by decide +kernel
theorem dX5_number_69 : decode cX5_number 69 = .ok (.aload_n 0, 1) := by decide +kernel
theorem dX5_number_70 : decode cX5_number 70 = .ok (.iload_n 1, 1) := by decide +kernel
theorem dX5_number_71 : decode cX5_number 71 = .ok (.invokevirtual 63, 3) := by decide +kernel
theorem dX5_number_74 : decode cX5_number 74 = .ok (.ireturn, 1) := by decide +kernel
theorem dX5_number_75 : decode cX5_number 75 = .ok (.aload_n 0, 1) := by decide +kernel
theorem dX5_number_76 : decode cX5_number 76 = .ok (.iload_n 1, 1) := by decide +kernel
theorem dX5_number_77 : decode cX5_number 77 = .ok (.invokevirtual 130, 3) := by decide +kernel
theorem dX5_number_80 : decode cX5_number 80 = .ok (.ireturn, 1) := by decide +kernel
theorem dX5_number_81 : decode cX5_number 81 = .ok (.aload_n 0, 1) := by decide +kernel
theorem dX5_number_82 : decode cX5_number 82 = .ok (.iload_n 1, 1) := by decide +kernel
theorem dX5_number_83 : decode cX5_number 83 = .ok (.iconst 0, 1) := by decide +kernel
theorem dX5_number_84 : decode cX5_number 84 = .ok (.invokevirtual 50, 3) := by decide +kernel
theorem dX5_number_87 : decode cX5_number 87 = .ok (.ireturn, 1) := by decide +kernel
theorem dX5_number_88 : decode cX5_number 88 = .ok (.aload_n 0, 1) := by decide +kernel
theorem dX5_number_89 : decode cX5_number 89 = .ok (.iload_n 1, 1) := by decide +kernel
theorem dX5_number_90 : decode cX5_number 90 = .ok (.iconst 2, 1) := by decide +kernel
theorem dX5_number_91 : decode cX5_number 91 = .ok (.invokevirtual 50, 3) := by decide +kernel
theorem dX5_number_94 : decode cX5_number 94 = .ok (.ireturn, 1) := by decide +kernel
theorem dX5_cordOf_0 : decode cX5_cordOf 0 = .ok (.aload_n 0, 1) := by decide +kernel
theorem dX5_cordOf_1 : decode cX5_cordOf 1 = .ok (.iload_n 1, 1) := by decide +kernel
theorem dX5_cordOf_2 : decode cX5_cordOf 2 = .ok (.invokestatic 82, 3) := by decide +kernel
theorem dX5_cordOf_5 : decode cX5_cordOf 5 = .ok (.ifCond .ne 7, 3) := by decide +kernel
theorem dX5_cordOf_8 : decode cX5_cordOf 8 = .ok (.iconst 1, 1) := by decide +kernel
theorem dX5_cordOf_9 : decode cX5_cordOf 9 = .ok (.goto 18, 3) := by decide +kernel
theorem dX5_cordOf_12 : decode cX5_cordOf 12 = .ok (.iload_n 2, 1) := by decide +kernel
theorem dX5_cordOf_13 : decode cX5_cordOf 13 = .ok (.iconst 0, 1) := by decide +kernel
theorem dX5_cordOf_14 : decode cX5_cordOf 14 = .ok (.bipush 7, 2) := by decide +kernel
theorem dX5_cordOf_16 : decode cX5_cordOf 16 = .ok (.invokestatic 39, 3) := by decide +kernel
theorem dX5_cordOf_19 : decode cX5_cordOf 19 = .ok (.ifCond .ne 7, 3) := by decide +kernel
theorem dX5_cordOf_22 : decode cX5_cordOf 22 = .ok (.iconst 2, 1) := by decide +kernel
theorem dX5_cordOf_23 : decode cX5_cordOf 23 = .ok (.goto 4, 3) := by decide +kernel
theorem dX5_cordOf_26 : decode cX5_cordOf 26 = .ok (.iconst 0, 1) := by decide +kernel
theorem dX5_cordOf_27 : decode cX5_cordOf 27 = .ok (.invokevirtual 86, 3) := by decide +kernel
theorem dX5_cordOf_30 : decode cX5_cordOf 30 = .ok (.ifCond .eq 12, 3) := by decide +kernel
theorem dX5_cordOf_33 : decode cX5_cordOf 33 = .ok (.aload_n 0, 1) := by decide +kernel
theorem dX5_cordOf_34 : decode cX5_cordOf 34 = .ok (.iload_n 1, 1) := by decide +kernel
theorem dX5_cordOf_35 : decode cX5_cordOf 35 = .ok (.iload_n 2, 1) := by decide +kernel
theorem dX5_cordOf_36 : decode cX5_cordOf 36 = .ok (.invokevirtual 133, 3) := by decide +kernel
theorem dX5_cordOf_39 : decode cX5_cordOf 39 = .ok (.goto 4, 3) := by decide +kernel
theorem dX5_cordOf_42 : decode cX5_cordOf 42 = .ok (.iconst 0, 1) := by decide +kernel
theorem dX5_cordOf_43 : decode cX5_cordOf 43 = .ok (.ireturn, 1) := by decide +kernel
theorem dX5_atPlace_0 : decode cX5_atPlace 0 = .ok (.aload_n 0, 1) := by decide +kernel
theorem dX5_atPlace_1 : decode cX5_atPlace 1 = .ok (.getfield 7, 3) := by decide +kernel
theorem dX5_atPlace_4 : decode cX5_atPlace 4 = .ok (.iconst 5, 1) := by decide +kernel
theorem dX5_atPlace_5 : decode cX5_atPlace 5 = .ok (.iaload, 1) := by decide +kernel
theorem dX5_atPlace_6 : decode cX5_atPlace 6 = .ok (.aload_n 0, 1) := by decide +kernel
theorem dX5_atPlace_7 : decode cX5_atPlace 7 = .ok (.iload_n 1, 1) := by decide +kernel
theorem dX5_atPlace_8 : decode cX5_atPlace 8 = .ok (.bipush 19, 2) := by decide +kernel
theorem dX5_atPlace_10 : decode cX5_atPlace 10 = .ok (.iload_n 2, 1) := by decide +kernel
theorem dX5_atPlace_11 : decode cX5_atPlace 11 = .ok (.iadd, 1) := by decide +kernel
theorem dX5_atPlace_12 : decode cX5_atPlace 12 = .ok (.invokevirtual 50, 3) := by decide +kernel
theorem dX5_atPlace_15 : decode cX5_atPlace 15 = .ok (.isub, 1) := by decide +kernel
theorem dX5_atPlace_16 : decode cX5_atPlace 16 = .ok (.aload_n 0, 1) := by decide +kernel
theorem dX5_atPlace_17 : decode cX5_atPlace 17 = .ok (.iload_n 1, 1) := by decide +kernel
theorem dX5_atPlace_18 : decode cX5_atPlace 18 = .ok (.bipush 25, 2) := by decide +kernel
theorem dX5_atPlace_20 : decode cX5_atPlace 20 = .ok (.iload_n 2, 1) := by decide +kernel
theorem dX5_atPlace_21 : decode cX5_atPlace 21 = .ok (.iadd, 1) := by decide +kernel
theorem dX5_atPlace_22 : decode cX5_atPlace 22 = .ok (.invokevirtual 50, 3) := by decide +kernel
theorem dX5_atPlace_25 : decode cX5_atPlace 25 = .ok (.isub, 1) := by decide +kernel
theorem dX5_atPlace_26 : decode cX5_atPlace 26 = .ok (.istore 4, 2) := by decide +kernel
theorem dX5_atPlace_28 : decode cX5_atPlace 28 = .ok (.iload_n 3, 1) := by decide +kernel
theorem dX5_atPlace_29 : decode cX5_atPlace 29 = .ok (.ifCond .ne 15, 3) := by decide +kernel
theorem dX5_atPlace_32 : decode cX5_atPlace 32 = .ok (.aload_n 0, 1) := by decide +kernel
theorem dX5_atPlace_33 : decode cX5_atPlace 33 = .ok (.iload_n 1, 1) := by decide +kernel
theorem dX5_atPlace_34 : decode cX5_atPlace 34 = .ok (.bipush 19, 2) := by decide +kernel
theorem dX5_atPlace_36 : decode cX5_atPlace 36 = .ok (.iload_n 2, 1) := by decide +kernel
theorem dX5_atPlace_37 : decode cX5_atPlace 37 = .ok (.iadd, 1) := by decide +kernel
theorem dX5_atPlace_38 : decode cX5_atPlace 38 = .ok (.invokevirtual 50, 3) := by decide +kernel
theorem dX5_atPlace_41 : decode cX5_atPlace 41 = .ok (.goto 45, 3) := by decide +kernel
theorem dX5_atPlace_44 : decode cX5_atPlace 44 = .ok (.iload_n 3, 1) := by decide +kernel
theorem dX5_atPlace_45 : decode cX5_atPlace 45 = .ok (.iconst 1, 1) := by decide +kernel
theorem dX5_atPlace_46 : decode cX5_atPlace 46 = .ok (.if_icmp .ne 15, 3) := by decide +kernel
theorem dX5_atPlace_49 : decode cX5_atPlace 49 = .ok (.aload_n 0, 1) := by decide +kernel
theorem dX5_atPlace_50 : decode cX5_atPlace 50 = .ok (.iload_n 1, 1) := by decide +kernel
theorem dX5_atPlace_51 : decode cX5_atPlace 51 = .ok (.bipush 25, 2) := by decide +kernel
theorem dX5_atPlace_53 : decode cX5_atPlace 53 = .ok (.iload_n 2, 1) := by decide +kernel
theorem dX5_atPlace_54 : decode cX5_atPlace 54 = .ok (.iadd, 1) := by decide +kernel
theorem dX5_atPlace_55 : decode cX5_atPlace 55 = .ok (.invokevirtual 50, 3) := by decide +kernel
theorem dX5_atPlace_58 : decode cX5_atPlace 58 = .ok (.goto 28, 3) := by decide +kernel
theorem dX5_atPlace_61 : decode cX5_atPlace 61 = .ok (.iload_n 3, 1) := by decide +kernel
theorem dX5_atPlace_62 : decode cX5_atPlace 62 = .ok (.iconst 2, 1) := by decide +kernel
theorem dX5_atPlace_63 : decode cX5_atPlace 63 = .ok (.if_icmp .ne 12, 3) := by decide +kernel
theorem dX5_atPlace_66 : decode cX5_atPlace 66 = .ok (.aload_n 0, 1) := by decide +kernel
theorem dX5_atPlace_67 : decode cX5_atPlace 67 = .ok (.iload_n 1, 1) := by decide +kernel
theorem dX5_atPlace_68 : decode cX5_atPlace 68 = .ok (.iload_n 2, 1) := by decide +kernel
theorem dX5_atPlace_69 : decode cX5_atPlace 69 = .ok (.invokevirtual 53, 3) := by decide +kernel
theorem dX5_atPlace_72 : decode cX5_atPlace 72 = .ok (.goto 14, 3) := by decide +kernel
theorem dX5_atPlace_75 : decode cX5_atPlace 75 = .ok (.iload 4, 2) := by decide +kernel
theorem dX5_atPlace_77 : decode cX5_atPlace 77 = .ok (.ifCond .le 8, 3) := by decide +kernel
theorem dX5_atPlace_80 : decode cX5_atPlace 80 = .ok (.iload 4, 2) := by decide +kernel
theorem dX5_atPlace_82 : decode cX5_atPlace 82 = .ok (.goto 4, 3) := by decide +kernel
theorem dX5_atPlace_85 : decode cX5_atPlace 85 = .ok (.iconst 0, 1) := by decide +kernel
theorem dX5_atPlace_86 : decode cX5_atPlace 86 = .ok (.ireturn, 1) := by decide +kernel
theorem dX5_placeOf_0 : decode cX5_placeOf 0 = .ok (.aload_n 0, 1) := by decide +kernel
theorem dX5_placeOf_1 : decode cX5_placeOf 1 = .ok (.iload_n 1, 1) := by decide +kernel
theorem dX5_placeOf_2 : decode cX5_placeOf 2 = .ok (.invokestatic 82, 3) := by decide +kernel
theorem dX5_placeOf_5 : decode cX5_placeOf 5 = .ok (.ifCond .eq 12, 3) := by decide +kernel
theorem dX5_placeOf_8 : decode cX5_placeOf 8 = .ok (.iload_n 2, 1) := by decide +kernel
theorem dX5_placeOf_9 : decode cX5_placeOf 9 = .ok (.iconst 0, 1) := by decide +kernel
theorem dX5_placeOf_10 : decode cX5_placeOf 10 = .ok (.iconst 5, 1) := by decide +kernel
theorem dX5_placeOf_11 : decode cX5_placeOf 11 = .ok (.invokestatic 39, 3) := by decide +kernel
theorem dX5_placeOf_14 : decode cX5_placeOf 14 = .ok (.ifCond .ne 7, 3) := by decide +kernel
theorem dX5_placeOf_17 : decode cX5_placeOf 17 = .ok (.iconst 1, 1) := by decide +kernel
theorem dX5_placeOf_18 : decode cX5_placeOf 18 = .ok (.goto 17, 3) := by decide +kernel
theorem dX5_placeOf_21 : decode cX5_placeOf 21 = .ok (.iload_n 3, 1) := by decide +kernel
theorem dX5_placeOf_22 : decode cX5_placeOf 22 = .ok (.iconst 0, 1) := by decide +kernel
theorem dX5_placeOf_23 : decode cX5_placeOf 23 = .ok (.iconst 3, 1) := by decide +kernel
theorem dX5_placeOf_24 : decode cX5_placeOf 24 = .ok (.invokestatic 39, 3) := by decide +kernel
theorem dX5_placeOf_27 : decode cX5_placeOf 27 = .ok (.ifCond .ne 7, 3) := by decide +kernel
theorem dX5_placeOf_30 : decode cX5_placeOf 30 = .ok (.iconst 2, 1) := by decide +kernel
theorem dX5_placeOf_31 : decode cX5_placeOf 31 = .ok (.goto 4, 3) := by decide +kernel
theorem dX5_placeOf_34 : decode cX5_placeOf 34 = .ok (.iconst 0, 1) := by decide +kernel
theorem dX5_placeOf_35 : decode cX5_placeOf 35 = .ok (.invokevirtual 86, 3) := by decide +kernel
theorem dX5_placeOf_38 : decode cX5_placeOf 38 = .ok (.ifCond .eq 13, 3) := by decide +kernel
theorem dX5_placeOf_41 : decode cX5_placeOf 41 = .ok (.aload_n 0, 1) := by decide +kernel
theorem dX5_placeOf_42 : decode cX5_placeOf 42 = .ok (.iload_n 1, 1) := by decide +kernel
theorem dX5_placeOf_43 : decode cX5_placeOf 43 = .ok (.iload_n 2, 1) := by decide +kernel
theorem dX5_placeOf_44 : decode cX5_placeOf 44 = .ok (.iload_n 3, 1) := by decide +kernel
theorem dX5_placeOf_45 : decode cX5_placeOf 45 = .ok (.invokevirtual 136, 3) := by decide +kernel
theorem dX5_placeOf_48 : decode cX5_placeOf 48 = .ok (.goto 4, 3) := by decide +kernel
theorem dX5_placeOf_51 : decode cX5_placeOf 51 = .ok (.iconst 0, 1) := by decide +kernel
theorem dX5_placeOf_52 : decode cX5_placeOf 52 = .ok (.ireturn, 1) := by decide +kernel
theorem dX5_part_0 : decode cX5_part 0 = .ok (.aload_n 0, 1) := by decide +kernel
theorem dX5_part_1 : decode cX5_part 1 = .ok (.iload_n 1, 1) := by decide +kernel
theorem dX5_part_2 : decode cX5_part 2 = .ok (.invokestatic 82, 3) := by decide +kernel
theorem dX5_part_5 : decode cX5_part 5 = .ok (.ifCond .ne 7, 3) := by decide +kernel
theorem dX5_part_8 : decode cX5_part 8 = .ok (.iconst 1, 1) := by decide +kernel
theorem dX5_part_9 : decode cX5_part 9 = .ok (.goto 12, 3) := by decide +kernel
theorem dX5_part_12 : decode cX5_part 12 = .ok (.iload_n 2, 1) := by decide +kernel
theorem dX5_part_13 : decode cX5_part 13 = .ok (.ifCond .ge 7, 3) := by decide +kernel
theorem dX5_part_16 : decode cX5_part 16 = .ok (.iconst 2, 1) := by decide +kernel
theorem dX5_part_17 : decode cX5_part 17 = .ok (.goto 4, 3) := by decide +kernel
theorem dX5_part_20 : decode cX5_part 20 = .ok (.iconst 0, 1) := by decide +kernel
theorem dX5_part_21 : decode cX5_part 21 = .ok (.invokevirtual 86, 3) := by decide +kernel
theorem dX5_part_24 : decode cX5_part 24 = .ok (.ifCond .ne 5, 3) := by decide +kernel
theorem dX5_part_27 : decode cX5_part 27 = .ok (.iconst 0, 1) := by decide +kernel
theorem dX5_part_28 : decode cX5_part 28 = .ok (.ireturn, 1) := by decide +kernel
theorem dX5_part_29 : decode cX5_part 29 = .ok (.iload_n 2, 1) := by decide +kernel
theorem dX5_part_30 : decode cX5_part 30 = .ok (.aload_n 0, 1) := by decide +kernel
theorem dX5_part_31 : decode cX5_part 31 = .ok (.iload_n 1, 1) := by decide +kernel
theorem dX5_part_32 : decode cX5_part 32 = .ok (.iconst 1, 1) := by decide +kernel
theorem dX5_part_33 : decode cX5_part 33 = .ok (.invokevirtual 50, 3) := by decide +kernel
theorem dX5_part_36 : decode cX5_part 36 = .ok (.if_icmp .ge 14, 3) := by decide +kernel
theorem dX5_part_39 : decode cX5_part 39 = .ok (.aload_n 0, 1) := by decide +kernel
theorem dX5_part_40 : decode cX5_part 40 = .ok (.iload_n 1, 1) := by decide +kernel
theorem dX5_part_41 : decode cX5_part 41 = .ok (.iconst 3, 1) := by decide +kernel
theorem dX5_part_42 : decode cX5_part 42 = .ok (.iload_n 2, 1) := by decide +kernel
theorem dX5_part_43 : decode cX5_part 43 = .ok (.iadd, 1) := by decide +kernel
theorem dX5_part_44 : decode cX5_part 44 = .ok (.invokevirtual 50, 3) := by decide +kernel
theorem dX5_part_47 : decode cX5_part 47 = .ok (.goto 4, 3) := by decide +kernel
theorem dX5_part_50 : decode cX5_part 50 = .ok (.iconst (-1), 1) := by decide +kernel
theorem dX5_part_51 : decode cX5_part 51 = .ok (.ireturn, 1) := by decide +kernel
theorem dX5_sumOf_0 : decode cX5_sumOf 0 = .ok (.iconst 0, 1) := by decide +kernel
theorem dX5_sumOf_1 : decode cX5_sumOf 1 = .ok (.istore_n 2, 1) := by decide +kernel
theorem dX5_sumOf_2 : decode cX5_sumOf 2 = .ok (.iconst 0, 1) := by decide +kernel
theorem dX5_sumOf_3 : decode cX5_sumOf 3 = .ok (.istore_n 3, 1) := by decide +kernel
theorem dX5_sumOf_4 : decode cX5_sumOf 4 = .ok (.iload_n 3, 1) := by decide +kernel
theorem dX5_sumOf_5 : decode cX5_sumOf 5 = .ok (.bipush 7, 2) := by decide +kernel
theorem dX5_sumOf_7 : decode cX5_sumOf 7 = .ok (.if_icmp .ge 50, 3) := by decide +kernel
theorem dX5_sumOf_10 : decode cX5_sumOf 10 = .ok (.iload_n 2, 1) := by decide +kernel
theorem dX5_sumOf_11 : decode cX5_sumOf 11 = .ok (.iload_n 1, 1) := by decide +kernel
theorem dX5_sumOf_12 : decode cX5_sumOf 12 = .ok (.ifCond .ne 11, 3) := by decide +kernel
theorem dX5_sumOf_15 : decode cX5_sumOf 15 = .ok (.aload_n 0, 1) := by decide +kernel
theorem dX5_sumOf_16 : decode cX5_sumOf 16 = .ok (.iload_n 3, 1) := by decide +kernel
theorem dX5_sumOf_17 : decode cX5_sumOf 17 = .ok (.invokevirtual 60, 3) := by decide +kernel
theorem dX5_sumOf_20 : decode cX5_sumOf 20 = .ok (.goto 29, 3) := by decide +kernel
theorem dX5_sumOf_23 : decode cX5_sumOf 23 = .ok (.iload_n 1, 1) := by decide +kernel
theorem dX5_sumOf_24 : decode cX5_sumOf 24 = .ok (.iconst 1, 1) := by decide +kernel
theorem dX5_sumOf_25 : decode cX5_sumOf 25 = .ok (.if_icmp .ne 11, 3) := by decide +kernel
theorem dX5_sumOf_28 : decode cX5_sumOf 28 = .ok (.aload_n 0, 1) := by decide +kernel
theorem dX5_sumOf_29 : decode cX5_sumOf 29 = .ok (.iload_n 3, 1) := by decide +kernel
theorem dX5_sumOf_30 : decode cX5_sumOf 30 = .ok (.invokevirtual 63, 3) := by decide +kernel
theorem dX5_sumOf_33 : decode cX5_sumOf 33 = .ok (.goto 16, 3) := by decide +kernel
theorem dX5_sumOf_36 : decode cX5_sumOf 36 = .ok (.aload_n 0, 1) := by decide +kernel
theorem dX5_sumOf_37 : decode cX5_sumOf 37 = .ok (.iload_n 3, 1) := by decide +kernel
theorem dX5_sumOf_38 : decode cX5_sumOf 38 = .ok (.invokevirtual 79, 3) := by decide +kernel
theorem dX5_sumOf_41 : decode cX5_sumOf 41 = .ok (.ifCond .le 7, 3) := by decide +kernel
theorem dX5_sumOf_44 : decode cX5_sumOf 44 = .ok (.iconst 1, 1) := by decide +kernel
theorem dX5_sumOf_45 : decode cX5_sumOf 45 = .ok (.goto 4, 3) := by decide +kernel
theorem dX5_sumOf_48 : decode cX5_sumOf 48 = .ok (.iconst 0, 1) := by decide +kernel
theorem dX5_sumOf_49 : decode cX5_sumOf 49 = .ok (.iadd, 1) := by decide +kernel
theorem dX5_sumOf_50 : decode cX5_sumOf 50 = .ok (.istore_n 2, 1) := by decide +kernel
theorem dX5_sumOf_51 : decode cX5_sumOf 51 = .ok (.iinc 3 1, 3) := by decide +kernel
theorem dX5_sumOf_54 : decode cX5_sumOf 54 = .ok (.goto (-50), 3) := by decide +kernel
theorem dX5_sumOf_57 : decode cX5_sumOf 57 = .ok (.iload_n 2, 1) := by decide +kernel
theorem dX5_sumOf_58 : decode cX5_sumOf 58 = .ok (.ireturn, 1) := by decide +kernel
theorem dX5_counted_0 : decode cX5_counted 0 = .ok (.iload_n 1, 1) := by decide +kernel
theorem dX5_counted_1 : decode cX5_counted 1 = .ok (.tableswitch 73 0 9 #[55, 55, 73, 73, 73, 73, 73, 55, 61, 68], 55) := by decide +kernel
theorem dX5_counted_56 : decode cX5_counted 56 = .ok (.aload_n 0, 1) := by decide +kernel
theorem dX5_counted_57 : decode cX5_counted 57 = .ok (.iload_n 1, 1) := by decide +kernel
theorem dX5_counted_58 : decode cX5_counted 58 = .ok (.invokevirtual 140, 3) := by decide +kernel
theorem dX5_counted_61 : decode cX5_counted 61 = .ok (.ireturn, 1) := by decide +kernel
theorem dX5_counted_62 : decode cX5_counted 62 = .ok (.aload_n 0, 1) := by decide +kernel
theorem dX5_counted_63 : decode cX5_counted 63 = .ok (.getfield 7, 3) := by decide +kernel
theorem dX5_counted_66 : decode cX5_counted 66 = .ok (.iconst 5, 1) := by decide +kernel
theorem dX5_counted_67 : decode cX5_counted 67 = .ok (.iaload, 1) := by decide +kernel
theorem dX5_counted_68 : decode cX5_counted 68 = .ok (.ireturn, 1) := by decide +kernel
theorem dX5_counted_69 : decode cX5_counted 69 = .ok (.aload_n 0, 1) := by decide +kernel
theorem dX5_counted_70 : decode cX5_counted 70 = .ok (.getfield 47, 3) := by decide +kernel
theorem dX5_counted_73 : decode cX5_counted 73 = .ok (.ireturn, 1) := by decide +kernel
theorem dX5_counted_74 : decode cX5_counted 74 = .ok (.aload_n 0, 1) := by decide +kernel
theorem dX5_counted_75 : decode cX5_counted 75 = .ok (.getfield 7, 3) := by decide +kernel
theorem dX5_counted_78 : decode cX5_counted 78 = .ok (.iload_n 1, 1) := by decide +kernel
theorem dX5_counted_79 : decode cX5_counted 79 = .ok (.iconst 2, 1) := by decide +kernel
theorem dX5_counted_80 : decode cX5_counted 80 = .ok (.isub, 1) := by decide +kernel
theorem dX5_counted_81 : decode cX5_counted 81 = .ok (.iaload, 1) := by decide +kernel
theorem dX5_counted_82 : decode cX5_counted 82 = .ok (.ireturn, 1) := by decide +kernel
theorem dX5_count_0 : decode cX5_count 0 = .ok (.aload_n 0, 1) := by decide +kernel
theorem dX5_count_1 : decode cX5_count 1 = .ok (.iload_n 1, 1) := by decide +kernel
theorem dX5_count_2 : decode cX5_count 2 = .ok (.iconst 0, 1) := by decide +kernel
theorem dX5_count_3 : decode cX5_count 3 = .ok (.bipush 9, 2) := by decide +kernel
theorem dX5_count_5 : decode cX5_count 5 = .ok (.invokestatic 39, 3) := by decide +kernel
theorem dX5_count_8 : decode cX5_count 8 = .ok (.ifCond .eq 7, 3) := by decide +kernel
theorem dX5_count_11 : decode cX5_count 11 = .ok (.iconst 0, 1) := by decide +kernel
theorem dX5_count_12 : decode cX5_count 12 = .ok (.goto 4, 3) := by decide +kernel
theorem dX5_count_15 : decode cX5_count 15 = .ok (.iconst 1, 1) := by decide +kernel
theorem dX5_count_16 : decode cX5_count 16 = .ok (.invokevirtual 86, 3) := by decide +kernel
theorem dX5_count_19 : decode cX5_count 19 = .ok (.ifCond .eq 11, 3) := by decide +kernel
theorem dX5_count_22 : decode cX5_count 22 = .ok (.aload_n 0, 1) := by decide +kernel
theorem dX5_count_23 : decode cX5_count 23 = .ok (.iload_n 1, 1) := by decide +kernel
theorem dX5_count_24 : decode cX5_count 24 = .ok (.invokevirtual 143, 3) := by decide +kernel
theorem dX5_count_27 : decode cX5_count 27 = .ok (.goto 4, 3) := by decide +kernel
theorem dX5_count_30 : decode cX5_count 30 = .ok (.iconst 0, 1) := by decide +kernel
theorem dX5_count_31 : decode cX5_count 31 = .ok (.ireturn, 1) := by decide +kernel
theorem dX5_ofHue_0 : decode cX5_ofHue 0 = .ok (.iconst 0, 1) := by decide +kernel
theorem dX5_ofHue_1 : decode cX5_ofHue 1 = .ok (.istore_n 2, 1) := by decide +kernel
theorem dX5_ofHue_2 : decode cX5_ofHue 2 = .ok (.iconst 0, 1) := by decide +kernel
theorem dX5_ofHue_3 : decode cX5_ofHue 3 = .ok (.istore_n 3, 1) := by decide +kernel
theorem dX5_ofHue_4 : decode cX5_ofHue 4 = .ok (.iload_n 3, 1) := by decide +kernel
theorem dX5_ofHue_5 : decode cX5_ofHue 5 = .ok (.bipush 7, 2) := by decide +kernel
theorem dX5_ofHue_7 : decode cX5_ofHue 7 = .ok (.if_icmp .ge 31, 3) := by decide +kernel
theorem dX5_ofHue_10 : decode cX5_ofHue 10 = .ok (.iload_n 2, 1) := by decide +kernel
theorem dX5_ofHue_11 : decode cX5_ofHue 11 = .ok (.aload_n 0, 1) := by decide +kernel
theorem dX5_ofHue_12 : decode cX5_ofHue 12 = .ok (.iload_n 3, 1) := by decide +kernel
theorem dX5_ofHue_13 : decode cX5_ofHue 13 = .ok (.iconst 0, 1) := by decide +kernel
theorem dX5_ofHue_14 : decode cX5_ofHue 14 = .ok (.invokevirtual 50, 3) := by decide +kernel
theorem dX5_ofHue_17 : decode cX5_ofHue 17 = .ok (.iload_n 1, 1) := by decide +kernel
theorem dX5_ofHue_18 : decode cX5_ofHue 18 = .ok (.if_icmp .ne 11, 3) := by decide +kernel
theorem dX5_ofHue_21 : decode cX5_ofHue 21 = .ok (.aload_n 0, 1) := by decide +kernel
theorem dX5_ofHue_22 : decode cX5_ofHue 22 = .ok (.iload_n 3, 1) := by decide +kernel
theorem dX5_ofHue_23 : decode cX5_ofHue 23 = .ok (.invokevirtual 60, 3) := by decide +kernel
theorem dX5_ofHue_26 : decode cX5_ofHue 26 = .ok (.goto 4, 3) := by decide +kernel
theorem dX5_ofHue_29 : decode cX5_ofHue 29 = .ok (.iconst 0, 1) := by decide +kernel
theorem dX5_ofHue_30 : decode cX5_ofHue 30 = .ok (.iadd, 1) := by decide +kernel
theorem dX5_ofHue_31 : decode cX5_ofHue 31 = .ok (.istore_n 2, 1) := by decide +kernel
theorem dX5_ofHue_32 : decode cX5_ofHue 32 = .ok (.iinc 3 1, 3) := by decide +kernel
theorem dX5_ofHue_35 : decode cX5_ofHue 35 = .ok (.goto (-31), 3) := by decide +kernel
theorem dX5_ofHue_38 : decode cX5_ofHue 38 = .ok (.iload_n 2, 1) := by decide +kernel
theorem dX5_ofHue_39 : decode cX5_ofHue 39 = .ok (.ireturn, 1) := by decide +kernel
theorem dX5_byHue_0 : decode cX5_byHue 0 = .ok (.aload_n 0, 1) := by decide +kernel
theorem dX5_byHue_1 : decode cX5_byHue 1 = .ok (.iload_n 1, 1) := by decide +kernel
theorem dX5_byHue_2 : decode cX5_byHue 2 = .ok (.iconst 0, 1) := by decide +kernel
theorem dX5_byHue_3 : decode cX5_byHue 3 = .ok (.iconst 5, 1) := by decide +kernel
theorem dX5_byHue_4 : decode cX5_byHue 4 = .ok (.invokestatic 39, 3) := by decide +kernel
theorem dX5_byHue_7 : decode cX5_byHue 7 = .ok (.ifCond .eq 7, 3) := by decide +kernel
theorem dX5_byHue_10 : decode cX5_byHue 10 = .ok (.iconst 0, 1) := by decide +kernel
theorem dX5_byHue_11 : decode cX5_byHue 11 = .ok (.goto 4, 3) := by decide +kernel
theorem dX5_byHue_14 : decode cX5_byHue 14 = .ok (.iconst 1, 1) := by decide +kernel
theorem dX5_byHue_15 : decode cX5_byHue 15 = .ok (.invokevirtual 86, 3) := by decide +kernel
theorem dX5_byHue_18 : decode cX5_byHue 18 = .ok (.ifCond .eq 11, 3) := by decide +kernel
theorem dX5_byHue_21 : decode cX5_byHue 21 = .ok (.aload_n 0, 1) := by decide +kernel
theorem dX5_byHue_22 : decode cX5_byHue 22 = .ok (.iload_n 1, 1) := by decide +kernel
theorem dX5_byHue_23 : decode cX5_byHue 23 = .ok (.invokevirtual 146, 3) := by decide +kernel
theorem dX5_byHue_26 : decode cX5_byHue 26 = .ok (.goto 4, 3) := by decide +kernel
theorem dX5_byHue_29 : decode cX5_byHue 29 = .ok (.iconst 0, 1) := by decide +kernel
theorem dX5_byHue_30 : decode cX5_byHue 30 = .ok (.ireturn, 1) := by decide +kernel
theorem dX5_whyNot_0 : decode cX5_whyNot 0 = .ok (.aload_n 0, 1) := by decide +kernel
theorem dX5_whyNot_1 : decode cX5_whyNot 1 = .ok (.iload_n 1, 1) := by decide +kernel
theorem dX5_whyNot_2 : decode cX5_whyNot 2 = .ok (.invokestatic 82, 3) := by decide +kernel
theorem dX5_whyNot_5 : decode cX5_whyNot 5 = .ok (.ifCond .ne 7, 3) := by decide +kernel
theorem dX5_whyNot_8 : decode cX5_whyNot 8 = .ok (.iconst 1, 1) := by decide +kernel
theorem dX5_whyNot_9 : decode cX5_whyNot 9 = .ok (.goto 18, 3) := by decide +kernel
theorem dX5_whyNot_12 : decode cX5_whyNot 12 = .ok (.iload_n 2, 1) := by decide +kernel
theorem dX5_whyNot_13 : decode cX5_whyNot 13 = .ok (.iconst 1, 1) := by decide +kernel
theorem dX5_whyNot_14 : decode cX5_whyNot 14 = .ok (.ldc 66, 2) := by decide +kernel
theorem dX5_whyNot_16 : decode cX5_whyNot 16 = .ok (.invokestatic 39, 3) := by decide +kernel
theorem dX5_whyNot_19 : decode cX5_whyNot 19 = .ok (.ifCond .ne 7, 3) := by decide +kernel
theorem dX5_whyNot_22 : decode cX5_whyNot 22 = .ok (.iconst 2, 1) := by decide +kernel
theorem dX5_whyNot_23 : decode cX5_whyNot 23 = .ok (.goto 4, 3) := by decide +kernel
theorem dX5_whyNot_26 : decode cX5_whyNot 26 = .ok (.iconst 0, 1) := by decide +kernel
theorem dX5_whyNot_27 : decode cX5_whyNot 27 = .ok (.invokevirtual 86, 3) := by decide +kernel
theorem dX5_whyNot_30 : decode cX5_whyNot 30 = .ok (.ifCond .eq 12, 3) := by decide +kernel
theorem dX5_whyNot_33 : decode cX5_whyNot 33 = .ok (.aload_n 0, 1) := by decide +kernel
theorem dX5_whyNot_34 : decode cX5_whyNot 34 = .ok (.iload_n 1, 1) := by decide +kernel
theorem dX5_whyNot_35 : decode cX5_whyNot 35 = .ok (.iload_n 2, 1) := by decide +kernel
theorem dX5_whyNot_36 : decode cX5_whyNot 36 = .ok (.invokevirtual 70, 3) := by decide +kernel
theorem dX5_whyNot_39 : decode cX5_whyNot 39 = .ok (.goto 4, 3) := by decide +kernel
theorem dX5_whyNot_42 : decode cX5_whyNot 42 = .ok (.iconst 0, 1) := by decide +kernel
theorem dX5_whyNot_43 : decode cX5_whyNot 43 = .ok (.ireturn, 1) := by decide +kernel
theorem dX5_times_0 : decode cX5_times 0 = .ok (.aload_n 0, 1) := by decide +kernel
theorem dX5_times_1 : decode cX5_times 1 = .ok (.invokevirtual 149, 3) := by decide +kernel
theorem dX5_times_4 : decode cX5_times 4 = .ok (.iconst 0, 1) := by decide +kernel
theorem dX5_times_5 : decode cX5_times 5 = .ok (.istore_n 3, 1) := by decide +kernel
theorem dX5_times_6 : decode cX5_times 6 = .ok (.aload_n 0, 1) := by decide +kernel
theorem dX5_times_7 : decode cX5_times 7 = .ok (.iload_n 1, 1) := by decide +kernel
theorem dX5_times_8 : decode cX5_times 8 = .ok (.iload_n 2, 1) := by decide +kernel
theorem dX5_times_9 : decode cX5_times 9 = .ok (.invokevirtual 76, 3) := by decide +kernel
theorem dX5_times_12 : decode cX5_times 12 = .ok (.bipush 10, 2) := by decide +kernel
theorem dX5_times_14 : decode cX5_times 14 = .ok (.if_icmp .lt 9, 3) := by decide +kernel
theorem dX5_times_17 : decode cX5_times 17 = .ok (.iinc 3 1, 3) := by decide +kernel
theorem dX5_times_20 : decode cX5_times 20 = .ok (.goto (-14), 3) := by decide +kernel
theorem dX5_times_23 : decode cX5_times 23 = .ok (.aload_n 0, 1) := by decide +kernel
theorem dX5_times_24 : decode cX5_times 24 = .ok (.invokevirtual 152, 3) := by decide +kernel
theorem dX5_times_27 : decode cX5_times 27 = .ok (.iload_n 3, 1) := by decide +kernel
theorem dX5_times_28 : decode cX5_times 28 = .ok (.ireturn, 1) := by decide +kernel
theorem dX5_howOften_0 : decode cX5_howOften 0 = .ok (.aload_n 0, 1) := by decide +kernel
theorem dX5_howOften_1 : decode cX5_howOften 1 = .ok (.iload_n 1, 1) := by decide +kernel
theorem dX5_howOften_2 : decode cX5_howOften 2 = .ok (.invokestatic 82, 3) := by decide +kernel
theorem dX5_howOften_5 : decode cX5_howOften 5 = .ok (.ifCond .ne 7, 3) := by decide +kernel
theorem dX5_howOften_8 : decode cX5_howOften 8 = .ok (.iconst 1, 1) := by decide +kernel
theorem dX5_howOften_9 : decode cX5_howOften 9 = .ok (.goto 18, 3) := by decide +kernel
theorem dX5_howOften_12 : decode cX5_howOften 12 = .ok (.iload_n 2, 1) := by decide +kernel
theorem dX5_howOften_13 : decode cX5_howOften 13 = .ok (.iconst 1, 1) := by decide +kernel
theorem dX5_howOften_14 : decode cX5_howOften 14 = .ok (.ldc 66, 2) := by decide +kernel
theorem dX5_howOften_16 : decode cX5_howOften 16 = .ok (.invokestatic 39, 3) := by decide +kernel
theorem dX5_howOften_19 : decode cX5_howOften 19 = .ok (.ifCond .ne 7, 3) := by decide +kernel
theorem dX5_howOften_22 : decode cX5_howOften 22 = .ok (.iconst 2, 1) := by decide +kernel
theorem dX5_howOften_23 : decode cX5_howOften 23 = .ok (.goto 4, 3) := by decide +kernel
theorem dX5_howOften_26 : decode cX5_howOften 26 = .ok (.iconst 0, 1) := by decide +kernel
theorem dX5_howOften_27 : decode cX5_howOften 27 = .ok (.invokevirtual 86, 3) := by decide +kernel
theorem dX5_howOften_30 : decode cX5_howOften 30 = .ok (.ifCond .eq 12, 3) := by decide +kernel
theorem dX5_howOften_33 : decode cX5_howOften 33 = .ok (.aload_n 0, 1) := by decide +kernel
theorem dX5_howOften_34 : decode cX5_howOften 34 = .ok (.iload_n 1, 1) := by decide +kernel
theorem dX5_howOften_35 : decode cX5_howOften 35 = .ok (.iload_n 2, 1) := by decide +kernel
theorem dX5_howOften_36 : decode cX5_howOften 36 = .ok (.invokevirtual 155, 3) := by decide +kernel
theorem dX5_howOften_39 : decode cX5_howOften 39 = .ok (.goto 4, 3) := by decide +kernel
theorem dX5_howOften_42 : decode cX5_howOften 42 = .ok (.iconst 0, 1) := by decide +kernel
theorem dX5_howOften_43 : decode cX5_howOften 43 = .ok (.ireturn, 1) := by decide +kernel
theorem dX5_many_0 : decode cX5_many 0 = .ok (.iconst 0, 1) := by decide +kernel
theorem dX5_many_1 : decode cX5_many 1 = .ok (.istore_n 1, 1) := by decide +kernel
theorem dX5_many_2 : decode cX5_many 2 = .ok (.iconst 0, 1) := by decide +kernel
theorem dX5_many_3 : decode cX5_many 3 = .ok (.istore_n 2, 1) := by decide +kernel
theorem dX5_many_4 : decode cX5_many 4 = .ok (.iload_n 2, 1) := by decide +kernel
theorem dX5_many_5 : decode cX5_many 5 = .ok (.bipush 7, 2) := by decide +kernel
theorem dX5_many_7 : decode cX5_many 7 = .ok (.if_icmp .ge 17, 3) := by decide +kernel
theorem dX5_many_10 : decode cX5_many 10 = .ok (.iload_n 1, 1) := by decide +kernel
theorem dX5_many_11 : decode cX5_many 11 = .ok (.iload_n 0, 1) := by decide +kernel
theorem dX5_many_12 : decode cX5_many 12 = .ok (.iload_n 2, 1) := by decide +kernel
theorem dX5_many_13 : decode cX5_many 13 = .ok (.ishr, 1) := by decide +kernel
theorem dX5_many_14 : decode cX5_many 14 = .ok (.iconst 1, 1) := by decide +kernel
theorem dX5_many_15 : decode cX5_many 15 = .ok (.iand, 1) := by decide +kernel
theorem dX5_many_16 : decode cX5_many 16 = .ok (.iadd, 1) := by decide +kernel
theorem dX5_many_17 : decode cX5_many 17 = .ok (.istore_n 1, 1) := by decide +kernel
theorem dX5_many_18 : decode cX5_many 18 = .ok (.iinc 2 1, 3) := by decide +kernel
theorem dX5_many_21 : decode cX5_many 21 = .ok (.goto (-17), 3) := by decide +kernel
theorem dX5_many_24 : decode cX5_many 24 = .ok (.iload_n 1, 1) := by decide +kernel
theorem dX5_many_25 : decode cX5_many 25 = .ok (.ireturn, 1) := by decide +kernel
theorem dX5_toldBy_0 : decode cX5_toldBy 0 = .ok (.iconst 0, 1) := by decide +kernel
theorem dX5_toldBy_1 : decode cX5_toldBy 1 = .ok (.istore_n 2, 1) := by decide +kernel
theorem dX5_toldBy_2 : decode cX5_toldBy 2 = .ok (.iconst 0, 1) := by decide +kernel
theorem dX5_toldBy_3 : decode cX5_toldBy 3 = .ok (.istore_n 3, 1) := by decide +kernel
theorem dX5_toldBy_4 : decode cX5_toldBy 4 = .ok (.iload_n 3, 1) := by decide +kernel
theorem dX5_toldBy_5 : decode cX5_toldBy 5 = .ok (.bipush 7, 2) := by decide +kernel
theorem dX5_toldBy_7 : decode cX5_toldBy 7 = .ok (.if_icmp .ge 23, 3) := by decide +kernel
theorem dX5_toldBy_10 : decode cX5_toldBy 10 = .ok (.iload_n 2, 1) := by decide +kernel
theorem dX5_toldBy_11 : decode cX5_toldBy 11 = .ok (.iload_n 1, 1) := by decide +kernel
theorem dX5_toldBy_12 : decode cX5_toldBy 12 = .ok (.iload_n 3, 1) := by decide +kernel
theorem dX5_toldBy_13 : decode cX5_toldBy 13 = .ok (.ishr, 1) := by decide +kernel
theorem dX5_toldBy_14 : decode cX5_toldBy 14 = .ok (.iconst 1, 1) := by decide +kernel
theorem dX5_toldBy_15 : decode cX5_toldBy 15 = .ok (.iand, 1) := by decide +kernel
theorem dX5_toldBy_16 : decode cX5_toldBy 16 = .ok (.aload_n 0, 1) := by decide +kernel
theorem dX5_toldBy_17 : decode cX5_toldBy 17 = .ok (.iload_n 3, 1) := by decide +kernel
theorem dX5_toldBy_18 : decode cX5_toldBy 18 = .ok (.invokevirtual 60, 3) := by decide +kernel
theorem dX5_toldBy_21 : decode cX5_toldBy 21 = .ok (.imul, 1) := by decide +kernel
theorem dX5_toldBy_22 : decode cX5_toldBy 22 = .ok (.iadd, 1) := by decide +kernel
theorem dX5_toldBy_23 : decode cX5_toldBy 23 = .ok (.istore_n 2, 1) := by decide +kernel
theorem dX5_toldBy_24 : decode cX5_toldBy 24 = .ok (.iinc 3 1, 3) := by decide +kernel
theorem dX5_toldBy_27 : decode cX5_toldBy 27 = .ok (.goto (-23), 3) := by decide +kernel
theorem dX5_toldBy_30 : decode cX5_toldBy 30 = .ok (.iload_n 2, 1) := by decide +kernel
theorem dX5_toldBy_31 : decode cX5_toldBy 31 = .ok (.ireturn, 1) := by decide +kernel
theorem dX5_setFor_0 : decode cX5_setFor 0 = .ok (.iconst (-1), 1) := by decide +kernel
theorem dX5_setFor_1 : decode cX5_setFor 1 = .ok (.istore_n 2, 1) := by decide +kernel
theorem dX5_setFor_2 : decode cX5_setFor 2 = .ok (.iconst 1, 1) := by decide +kernel
theorem dX5_setFor_3 : decode cX5_setFor 3 = .ok (.istore_n 3, 1) := by decide +kernel
theorem dX5_setFor_4 : decode cX5_setFor 4 = .ok (.iload_n 3, 1) := by decide +kernel
theorem dX5_setFor_5 : decode cX5_setFor 5 = .ok (.sipush 128, 3) := by decide +kernel
theorem dX5_setFor_8 : decode cX5_setFor 8 = .ok (.if_icmp .ge 40, 3) := by decide +kernel
theorem dX5_setFor_11 : decode cX5_setFor 11 = .ok (.aload_n 0, 1) := by decide +kernel
theorem dX5_setFor_12 : decode cX5_setFor 12 = .ok (.iload_n 3, 1) := by decide +kernel
theorem dX5_setFor_13 : decode cX5_setFor 13 = .ok (.invokevirtual 158, 3) := by decide +kernel
theorem dX5_setFor_16 : decode cX5_setFor 16 = .ok (.iload_n 1, 1) := by decide +kernel
theorem dX5_setFor_17 : decode cX5_setFor 17 = .ok (.if_icmp .ne 23, 3) := by decide +kernel
theorem dX5_setFor_20 : decode cX5_setFor 20 = .ok (.iload_n 2, 1) := by decide +kernel
theorem dX5_setFor_21 : decode cX5_setFor 21 = .ok (.iconst (-1), 1) := by decide +kernel
theorem dX5_setFor_22 : decode cX5_setFor 22 = .ok (.if_icmp .eq 14, 3) := by decide +kernel
theorem dX5_setFor_25 : decode cX5_setFor 25 = .ok (.iload_n 3, 1) := by decide +kernel
theorem dX5_setFor_26 : decode cX5_setFor 26 = .ok (.invokestatic 161, 3) := by decide +kernel
theorem dX5_setFor_29 : decode cX5_setFor 29 = .ok (.iload_n 2, 1) := by decide +kernel
theorem dX5_setFor_30 : decode cX5_setFor 30 = .ok (.invokestatic 161, 3) := by decide +kernel
theorem dX5_setFor_33 : decode cX5_setFor 33 = .ok (.if_icmp .ge 7, 3) := by decide +kernel
theorem dX5_setFor_36 : decode cX5_setFor 36 = .ok (.iload_n 3, 1) := by decide +kernel
theorem dX5_setFor_37 : decode cX5_setFor 37 = .ok (.goto 4, 3) := by decide +kernel
theorem dX5_setFor_40 : decode cX5_setFor 40 = .ok (.iload_n 2, 1) := by decide +kernel
theorem dX5_setFor_41 : decode cX5_setFor 41 = .ok (.istore_n 2, 1) := by decide +kernel
theorem dX5_setFor_42 : decode cX5_setFor 42 = .ok (.iinc 3 1, 3) := by decide +kernel
theorem dX5_setFor_45 : decode cX5_setFor 45 = .ok (.goto (-41), 3) := by decide +kernel
theorem dX5_setFor_48 : decode cX5_setFor 48 = .ok (.iload_n 2, 1) := by decide +kernel
theorem dX5_setFor_49 : decode cX5_setFor 49 = .ok (.ireturn, 1) := by decide +kernel
theorem dX5_cordsFor_0 : decode cX5_cordsFor 0 = .ok (.aload_n 0, 1) := by decide +kernel
theorem dX5_cordsFor_1 : decode cX5_cordsFor 1 = .ok (.iload_n 1, 1) := by decide +kernel
theorem dX5_cordsFor_2 : decode cX5_cordsFor 2 = .ok (.iconst 1, 1) := by decide +kernel
theorem dX5_cordsFor_3 : decode cX5_cordsFor 3 = .ok (.ldc 164, 2) := by decide +kernel
theorem dX5_cordsFor_5 : decode cX5_cordsFor 5 = .ok (.invokestatic 39, 3) := by decide +kernel
theorem dX5_cordsFor_8 : decode cX5_cordsFor 8 = .ok (.ifCond .eq 16, 3) := by decide +kernel
theorem dX5_cordsFor_11 : decode cX5_cordsFor 11 = .ok (.iload_n 2, 1) := by decide +kernel
theorem dX5_cordsFor_12 : decode cX5_cordsFor 12 = .ok (.iconst 0, 1) := by decide +kernel
theorem dX5_cordsFor_13 : decode cX5_cordsFor 13 = .ok (.iconst 1, 1) := by decide +kernel
theorem dX5_cordsFor_14 : decode cX5_cordsFor 14 = .ok (.invokestatic 39, 3) := by decide +kernel
theorem dX5_cordsFor_17 : decode cX5_cordsFor 17 = .ok (.ifCond .eq 7, 3) := by decide +kernel
theorem dX5_cordsFor_20 : decode cX5_cordsFor 20 = .ok (.iconst 0, 1) := by decide +kernel
theorem dX5_cordsFor_21 : decode cX5_cordsFor 21 = .ok (.goto 4, 3) := by decide +kernel
theorem dX5_cordsFor_24 : decode cX5_cordsFor 24 = .ok (.iconst 1, 1) := by decide +kernel
theorem dX5_cordsFor_25 : decode cX5_cordsFor 25 = .ok (.invokevirtual 86, 3) := by decide +kernel
theorem dX5_cordsFor_28 : decode cX5_cordsFor 28 = .ok (.ifCond .eq 11, 3) := by decide +kernel
theorem dX5_cordsFor_31 : decode cX5_cordsFor 31 = .ok (.aload_n 0, 1) := by decide +kernel
theorem dX5_cordsFor_32 : decode cX5_cordsFor 32 = .ok (.iload_n 1, 1) := by decide +kernel
theorem dX5_cordsFor_33 : decode cX5_cordsFor 33 = .ok (.invokevirtual 165, 3) := by decide +kernel
theorem dX5_cordsFor_36 : decode cX5_cordsFor 36 = .ok (.goto 4, 3) := by decide +kernel
theorem dX5_cordsFor_39 : decode cX5_cordsFor 39 = .ok (.iconst 0, 1) := by decide +kernel
theorem dX5_cordsFor_40 : decode cX5_cordsFor 40 = .ok (.ireturn, 1) := by decide +kernel
theorem dX5_fullestOne_0 : decode cX5_fullestOne 0 = .ok (.iconst 0, 1) := by decide +kernel
theorem dX5_fullestOne_1 : decode cX5_fullestOne 1 = .ok (.istore_n 1, 1) := by decide +kernel
theorem dX5_fullestOne_2 : decode cX5_fullestOne 2 = .ok (.iconst 1, 1) := by decide +kernel
theorem dX5_fullestOne_3 : decode cX5_fullestOne 3 = .ok (.istore_n 2, 1) := by decide +kernel
theorem dX5_fullestOne_4 : decode cX5_fullestOne 4 = .ok (.iload_n 2, 1) := by decide +kernel
theorem dX5_fullestOne_5 : decode cX5_fullestOne 5 = .ok (.bipush 7, 2) := by decide +kernel
theorem dX5_fullestOne_7 : decode cX5_fullestOne 7 = .ok (.if_icmp .ge 28, 3) := by decide +kernel
theorem dX5_fullestOne_10 : decode cX5_fullestOne 10 = .ok (.aload_n 0, 1) := by decide +kernel
theorem dX5_fullestOne_11 : decode cX5_fullestOne 11 = .ok (.iload_n 2, 1) := by decide +kernel
theorem dX5_fullestOne_12 : decode cX5_fullestOne 12 = .ok (.invokevirtual 63, 3) := by decide +kernel
theorem dX5_fullestOne_15 : decode cX5_fullestOne 15 = .ok (.aload_n 0, 1) := by decide +kernel
theorem dX5_fullestOne_16 : decode cX5_fullestOne 16 = .ok (.iload_n 1, 1) := by decide +kernel
theorem dX5_fullestOne_17 : decode cX5_fullestOne 17 = .ok (.invokevirtual 63, 3) := by decide +kernel
theorem dX5_fullestOne_20 : decode cX5_fullestOne 20 = .ok (.if_icmp .le 7, 3) := by decide +kernel
theorem dX5_fullestOne_23 : decode cX5_fullestOne 23 = .ok (.iload_n 2, 1) := by decide +kernel
theorem dX5_fullestOne_24 : decode cX5_fullestOne 24 = .ok (.goto 4, 3) := by decide +kernel
theorem dX5_fullestOne_27 : decode cX5_fullestOne 27 = .ok (.iload_n 1, 1) := by decide +kernel
theorem dX5_fullestOne_28 : decode cX5_fullestOne 28 = .ok (.istore_n 1, 1) := by decide +kernel
theorem dX5_fullestOne_29 : decode cX5_fullestOne 29 = .ok (.iinc 2 1, 3) := by decide +kernel
theorem dX5_fullestOne_32 : decode cX5_fullestOne 32 = .ok (.goto (-28), 3) := by decide +kernel
theorem dX5_fullestOne_35 : decode cX5_fullestOne 35 = .ok (.iload_n 1, 1) := by decide +kernel
theorem dX5_fullestOne_36 : decode cX5_fullestOne 36 = .ok (.ireturn, 1) := by decide +kernel
theorem dX5_fullest_0 : decode cX5_fullest 0 = .ok (.aload_n 0, 1) := by decide +kernel
theorem dX5_fullest_1 : decode cX5_fullest 1 = .ok (.iconst 0, 1) := by decide +kernel
theorem dX5_fullest_2 : decode cX5_fullest 2 = .ok (.putfield 35, 3) := by decide +kernel
theorem dX5_fullest_5 : decode cX5_fullest 5 = .ok (.aload_n 0, 1) := by decide +kernel
theorem dX5_fullest_6 : decode cX5_fullest 6 = .ok (.invokevirtual 168, 3) := by decide +kernel
theorem dX5_fullest_9 : decode cX5_fullest 9 = .ok (.ireturn, 1) := by decide +kernel
theorem dX5_share_0 : decode cX5_share 0 = .ok (.iconst 0, 1) := by decide +kernel
theorem dX5_share_1 : decode cX5_share 1 = .ok (.istore_n 1, 1) := by decide +kernel
theorem dX5_share_2 : decode cX5_share 2 = .ok (.iconst 0, 1) := by decide +kernel
theorem dX5_share_3 : decode cX5_share 3 = .ok (.istore_n 2, 1) := by decide +kernel
theorem dX5_share_4 : decode cX5_share 4 = .ok (.iconst 0, 1) := by decide +kernel
theorem dX5_share_5 : decode cX5_share 5 = .ok (.istore_n 3, 1) := by decide +kernel
theorem dX5_share_6 : decode cX5_share 6 = .ok (.iload_n 3, 1) := by decide +kernel
theorem dX5_share_7 : decode cX5_share 7 = .ok (.bipush 7, 2) := by decide +kernel
theorem dX5_share_9 : decode cX5_share 9 = .ok (.if_icmp .ge 34, 3) := by decide +kernel
theorem dX5_share_12 : decode cX5_share 12 = .ok (.iload_n 1, 1) := by decide +kernel
theorem dX5_share_13 : decode cX5_share 13 = .ok (.bipush 10, 2) := by decide +kernel
theorem dX5_share_15 : decode cX5_share 15 = .ok (.aload_n 0, 1) := by decide +kernel
theorem dX5_share_16 : decode cX5_share 16 = .ok (.iload_n 3, 1) := by decide +kernel
theorem dX5_share_17 : decode cX5_share 17 = .ok (.invokevirtual 130, 3) := by decide +kernel
theorem dX5_share_20 : decode cX5_share 20 = .ok (.imul, 1) := by decide +kernel
theorem dX5_share_21 : decode cX5_share 21 = .ok (.iadd, 1) := by decide +kernel
theorem dX5_share_22 : decode cX5_share 22 = .ok (.istore_n 1, 1) := by decide +kernel
theorem dX5_share_23 : decode cX5_share 23 = .ok (.iload_n 2, 1) := by decide +kernel
theorem dX5_share_24 : decode cX5_share 24 = .ok (.aload_n 0, 1) := by decide +kernel
theorem dX5_share_25 : decode cX5_share 25 = .ok (.iload_n 3, 1) := by decide +kernel
theorem dX5_share_26 : decode cX5_share 26 = .ok (.invokevirtual 63, 3) := by decide +kernel
theorem dX5_share_29 : decode cX5_share 29 = .ok (.aload_n 0, 1) := by decide +kernel
theorem dX5_share_30 : decode cX5_share 30 = .ok (.iload_n 3, 1) := by decide +kernel
theorem dX5_share_31 : decode cX5_share 31 = .ok (.invokevirtual 130, 3) := by decide +kernel
theorem dX5_share_34 : decode cX5_share 34 = .ok (.isub, 1) := by decide +kernel
theorem dX5_share_35 : decode cX5_share 35 = .ok (.iadd, 1) := by decide +kernel
theorem dX5_share_36 : decode cX5_share 36 = .ok (.istore_n 2, 1) := by decide +kernel
theorem dX5_share_37 : decode cX5_share 37 = .ok (.iinc 3 1, 3) := by decide +kernel
theorem dX5_share_40 : decode cX5_share 40 = .ok (.goto (-34), 3) := by decide +kernel
theorem dX5_share_43 : decode cX5_share 43 = .ok (.iload_n 2, 1) := by decide +kernel
theorem dX5_share_44 : decode cX5_share 44 = .ok (.ifCond .ne 7, 3) := by decide +kernel
theorem dX5_share_47 : decode cX5_share 47 = .ok (.dconst 0, 1) := by decide +kernel
theorem dX5_share_48 : decode cX5_share 48 = .ok (.goto 8, 3) := by decide +kernel
theorem dX5_share_51 : decode cX5_share 51 = .ok (.iload_n 1, 1) := by decide +kernel
theorem dX5_share_52 : decode cX5_share 52 = .ok (.i2d, 1) := by decide +kernel
theorem dX5_share_53 : decode cX5_share 53 = .ok (.iload_n 2, 1) := by decide +kernel
theorem dX5_share_54 : decode cX5_share 54 = .ok (.i2d, 1) := by decide +kernel
theorem dX5_share_55 : decode cX5_share 55 = .ok (.ddiv, 1) := by decide +kernel
theorem dX5_share_56 : decode cX5_share 56 = .ok (.dreturn, 1) := by decide +kernel
theorem dX5_closedShare_0 : decode cX5_closedShare 0 = .ok (.aload_n 0, 1) := by decide +kernel
theorem dX5_closedShare_1 : decode cX5_closedShare 1 = .ok (.iconst 0, 1) := by decide +kernel
theorem dX5_closedShare_2 : decode cX5_closedShare 2 = .ok (.putfield 35, 3) := by decide +kernel
theorem dX5_closedShare_5 : decode cX5_closedShare 5 = .ok (.aload_n 0, 1) := by decide +kernel
theorem dX5_closedShare_6 : decode cX5_closedShare 6 = .ok (.invokevirtual 171, 3) := by decide +kernel
theorem dX5_closedShare_9 : decode cX5_closedShare 9 = .ok (.dreturn, 1) := by decide +kernel
theorem dX5_bitsOf_0 : decode cX5_bitsOf 0 = .ok (.dload_n 0, 1) := by decide +kernel
theorem dX5_bitsOf_1 : decode cX5_bitsOf 1 = .ok (.dconst 0, 1) := by decide +kernel
theorem dX5_bitsOf_2 : decode cX5_bitsOf 2 = .ok (.dcmp .l, 1) := by decide +kernel
theorem dX5_bitsOf_3 : decode cX5_bitsOf 3 = .ok (.ifCond .ne 5, 3) := by decide +kernel
theorem dX5_bitsOf_6 : decode cX5_bitsOf 6 = .ok (.lconst 0, 1) := by decide +kernel
theorem dX5_bitsOf_7 : decode cX5_bitsOf 7 = .ok (.lreturn, 1) := by decide +kernel
theorem dX5_bitsOf_8 : decode cX5_bitsOf 8 = .ok (.ldc2_w 175, 3) := by decide +kernel
theorem dX5_bitsOf_11 : decode cX5_bitsOf 11 = .ok (.lstore_n 2, 1) := by decide +kernel
theorem dX5_bitsOf_12 : decode cX5_bitsOf 12 = .ok (.dload_n 0, 1) := by decide +kernel
theorem dX5_bitsOf_13 : decode cX5_bitsOf 13 = .ok (.dstore 4, 2) := by decide +kernel
theorem dX5_bitsOf_15 : decode cX5_bitsOf 15 = .ok (.dload 4, 2) := by decide +kernel
theorem dX5_bitsOf_17 : decode cX5_bitsOf 17 = .ok (.dconst 1, 1) := by decide +kernel
theorem dX5_bitsOf_18 : decode cX5_bitsOf 18 = .ok (.dcmp .g, 1) := by decide +kernel
theorem dX5_bitsOf_19 : decode cX5_bitsOf 19 = .ok (.ifCond .ge 18, 3) := by decide +kernel
theorem dX5_bitsOf_22 : decode cX5_bitsOf 22 = .ok (.dload 4, 2) := by decide +kernel
theorem dX5_bitsOf_24 : decode cX5_bitsOf 24 = .ok (.ldc2_w 177, 3) := by decide +kernel
theorem dX5_bitsOf_27 : decode cX5_bitsOf 27 = .ok (.dmul, 1) := by decide +kernel
theorem dX5_bitsOf_28 : decode cX5_bitsOf 28 = .ok (.dstore 4, 2) := by decide +kernel
theorem dX5_bitsOf_30 : decode cX5_bitsOf 30 = .ok (.lload_n 2, 1) := by decide +kernel
theorem dX5_bitsOf_31 : decode cX5_bitsOf 31 = .ok (.lconst 1, 1) := by decide +kernel
theorem dX5_bitsOf_32 : decode cX5_bitsOf 32 = .ok (.lsub, 1) := by decide +kernel
theorem dX5_bitsOf_33 : decode cX5_bitsOf 33 = .ok (.lstore_n 2, 1) := by decide +kernel
theorem dX5_bitsOf_34 : decode cX5_bitsOf 34 = .ok (.goto (-19), 3) := by decide +kernel
theorem dX5_bitsOf_37 : decode cX5_bitsOf 37 = .ok (.lload_n 2, 1) := by decide +kernel
theorem dX5_bitsOf_38 : decode cX5_bitsOf 38 = .ok (.ldc2_w 179, 3) := by decide +kernel
theorem dX5_bitsOf_41 : decode cX5_bitsOf 41 = .ok (.lmul, 1) := by decide +kernel
theorem dX5_bitsOf_42 : decode cX5_bitsOf 42 = .ok (.dload 4, 2) := by decide +kernel
theorem dX5_bitsOf_44 : decode cX5_bitsOf 44 = .ok (.dconst 1, 1) := by decide +kernel
theorem dX5_bitsOf_45 : decode cX5_bitsOf 45 = .ok (.dsub, 1) := by decide +kernel
theorem dX5_bitsOf_46 : decode cX5_bitsOf 46 = .ok (.ldc2_w 181, 3) := by decide +kernel
theorem dX5_bitsOf_49 : decode cX5_bitsOf 49 = .ok (.dmul, 1) := by decide +kernel
theorem dX5_bitsOf_50 : decode cX5_bitsOf 50 = .ok (.d2l, 1) := by decide +kernel
theorem dX5_bitsOf_51 : decode cX5_bitsOf 51 = .ok (.ladd, 1) := by decide +kernel
theorem dX5_bitsOf_52 : decode cX5_bitsOf 52 = .ok (.lreturn, 1) := by decide +kernel
theorem dX5_digestOne_0 : decode cX5_digestOne 0 = .ok (.aload_n 0, 1) := by decide +kernel
theorem dX5_digestOne_1 : decode cX5_digestOne 1 = .ok (.ldc2_w 183, 3) := by decide +kernel
theorem dX5_digestOne_4 : decode cX5_digestOne 4 = .ok (.aload_n 0, 1) := by decide +kernel
theorem dX5_digestOne_5 : decode cX5_digestOne 5 = .ok (.getfield 185, 3) := by decide +kernel
theorem dX5_digestOne_8 : decode cX5_digestOne 8 = .ok (.lmul, 1) := by decide +kernel
theorem dX5_digestOne_9 : decode cX5_digestOne 9 = .ok (.lload_n 1, 1) := by decide +kernel
theorem dX5_digestOne_10 : decode cX5_digestOne 10 = .ok (.ladd, 1) := by decide +kernel
theorem dX5_digestOne_11 : decode cX5_digestOne 11 = .ok (.putfield 185, 3) := by decide +kernel
theorem dX5_digestOne_14 : decode cX5_digestOne 14 = .ok (.return_, 1) := by decide +kernel
theorem dX5_digestCord_0 : decode cX5_digestCord 0 = .ok (.iconst 0, 1) := by decide +kernel
theorem dX5_digestCord_1 : decode cX5_digestCord 1 = .ok (.istore_n 2, 1) := by decide +kernel
theorem dX5_digestCord_2 : decode cX5_digestCord 2 = .ok (.iload_n 2, 1) := by decide +kernel
theorem dX5_digestCord_3 : decode cX5_digestCord 3 = .ok (.bipush 8, 2) := by decide +kernel
theorem dX5_digestCord_5 : decode cX5_digestCord 5 = .ok (.if_icmp .ge 20, 3) := by decide +kernel
theorem dX5_digestCord_8 : decode cX5_digestCord 8 = .ok (.aload_n 0, 1) := by decide +kernel
theorem dX5_digestCord_9 : decode cX5_digestCord 9 = .ok (.aload_n 0, 1) := by decide +kernel
theorem dX5_digestCord_10 : decode cX5_digestCord 10 = .ok (.iload_n 1, 1) := by decide +kernel
theorem dX5_digestCord_11 : decode cX5_digestCord 11 = .ok (.iload_n 2, 1) := by decide +kernel
theorem dX5_digestCord_12 : decode cX5_digestCord 12 = .ok (.invokevirtual 133, 3) := by decide +kernel
theorem dX5_digestCord_15 : decode cX5_digestCord 15 = .ok (.i2l, 1) := by decide +kernel
theorem dX5_digestCord_16 : decode cX5_digestCord 16 = .ok (.invokevirtual 189, 3) := by decide +kernel
theorem dX5_digestCord_19 : decode cX5_digestCord 19 = .ok (.iinc 2 1, 3) := by decide +kernel
theorem dX5_digestCord_22 : decode cX5_digestCord 22 = .ok (.goto (-20), 3) := by decide +kernel
theorem dX5_digestCord_25 : decode cX5_digestCord 25 = .ok (.iconst 0, 1) := by decide +kernel
theorem dX5_digestCord_26 : decode cX5_digestCord 26 = .ok (.istore_n 2, 1) := by decide +kernel
theorem dX5_digestCord_27 : decode cX5_digestCord 27 = .ok (.iload_n 2, 1) := by decide +kernel
theorem dX5_digestCord_28 : decode cX5_digestCord 28 = .ok (.bipush 24, 2) := by decide +kernel
theorem dX5_digestCord_30 : decode cX5_digestCord 30 = .ok (.if_icmp .ge 25, 3) := by decide +kernel
theorem dX5_digestCord_33 : decode cX5_digestCord 33 = .ok (.aload_n 0, 1) := by decide +kernel
theorem dX5_digestCord_34 : decode cX5_digestCord 34 = .ok (.aload_n 0, 1) := by decide +kernel
theorem dX5_digestCord_35 : decode cX5_digestCord 35 = .ok (.iload_n 1, 1) := by decide +kernel
theorem dX5_digestCord_36 : decode cX5_digestCord 36 = .ok (.iload_n 2, 1) := by decide +kernel
theorem dX5_digestCord_37 : decode cX5_digestCord 37 = .ok (.iconst 4, 1) := by decide +kernel
theorem dX5_digestCord_38 : decode cX5_digestCord 38 = .ok (.idiv, 1) := by decide +kernel
theorem dX5_digestCord_39 : decode cX5_digestCord 39 = .ok (.iload_n 2, 1) := by decide +kernel
theorem dX5_digestCord_40 : decode cX5_digestCord 40 = .ok (.iconst 4, 1) := by decide +kernel
theorem dX5_digestCord_41 : decode cX5_digestCord 41 = .ok (.irem, 1) := by decide +kernel
theorem dX5_digestCord_42 : decode cX5_digestCord 42 = .ok (.invokevirtual 136, 3) := by decide +kernel
theorem dX5_digestCord_45 : decode cX5_digestCord 45 = .ok (.i2l, 1) := by decide +kernel
theorem dX5_digestCord_46 : decode cX5_digestCord 46 = .ok (.invokevirtual 189, 3) := by decide +kernel
theorem dX5_digestCord_49 : decode cX5_digestCord 49 = .ok (.iinc 2 1, 3) := by decide +kernel
theorem dX5_digestCord_52 : decode cX5_digestCord 52 = .ok (.goto (-25), 3) := by decide +kernel
theorem dX5_digestCord_55 : decode cX5_digestCord 55 = .ok (.iconst 0, 1) := by decide +kernel
theorem dX5_digestCord_56 : decode cX5_digestCord 56 = .ok (.istore_n 2, 1) := by decide +kernel
theorem dX5_digestCord_57 : decode cX5_digestCord 57 = .ok (.iload_n 2, 1) := by decide +kernel
theorem dX5_digestCord_58 : decode cX5_digestCord 58 = .ok (.aload_n 0, 1) := by decide +kernel
theorem dX5_digestCord_59 : decode cX5_digestCord 59 = .ok (.iload_n 1, 1) := by decide +kernel
theorem dX5_digestCord_60 : decode cX5_digestCord 60 = .ok (.iconst 1, 1) := by decide +kernel
theorem dX5_digestCord_61 : decode cX5_digestCord 61 = .ok (.invokevirtual 50, 3) := by decide +kernel
theorem dX5_digestCord_64 : decode cX5_digestCord 64 = .ok (.if_icmp .ge 22, 3) := by decide +kernel
theorem dX5_digestCord_67 : decode cX5_digestCord 67 = .ok (.aload_n 0, 1) := by decide +kernel
theorem dX5_digestCord_68 : decode cX5_digestCord 68 = .ok (.aload_n 0, 1) := by decide +kernel
theorem dX5_digestCord_69 : decode cX5_digestCord 69 = .ok (.iload_n 1, 1) := by decide +kernel
theorem dX5_digestCord_70 : decode cX5_digestCord 70 = .ok (.iconst 3, 1) := by decide +kernel
theorem dX5_digestCord_71 : decode cX5_digestCord 71 = .ok (.iload_n 2, 1) := by decide +kernel
theorem dX5_digestCord_72 : decode cX5_digestCord 72 = .ok (.iadd, 1) := by decide +kernel
theorem dX5_digestCord_73 : decode cX5_digestCord 73 = .ok (.invokevirtual 50, 3) := by decide +kernel
theorem dX5_digestCord_76 : decode cX5_digestCord 76 = .ok (.i2l, 1) := by decide +kernel
theorem dX5_digestCord_77 : decode cX5_digestCord 77 = .ok (.invokevirtual 189, 3) := by decide +kernel
theorem dX5_digestCord_80 : decode cX5_digestCord 80 = .ok (.iinc 2 1, 3) := by decide +kernel
theorem dX5_digestCord_83 : decode cX5_digestCord 83 = .ok (.goto (-26), 3) := by decide +kernel
theorem dX5_digestCord_86 : decode cX5_digestCord 86 = .ok (.aload_n 0, 1) := by decide +kernel
theorem dX5_digestCord_87 : decode cX5_digestCord 87 = .ok (.aload_n 0, 1) := by decide +kernel
theorem dX5_digestCord_88 : decode cX5_digestCord 88 = .ok (.iload_n 1, 1) := by decide +kernel
theorem dX5_digestCord_89 : decode cX5_digestCord 89 = .ok (.sipush 999, 3) := by decide +kernel
theorem dX5_digestCord_92 : decode cX5_digestCord 92 = .ok (.invokevirtual 70, 3) := by decide +kernel
theorem dX5_digestCord_95 : decode cX5_digestCord 95 = .ok (.i2l, 1) := by decide +kernel
theorem dX5_digestCord_96 : decode cX5_digestCord 96 = .ok (.invokevirtual 189, 3) := by decide +kernel
theorem dX5_digestCord_99 : decode cX5_digestCord 99 = .ok (.aload_n 0, 1) := by decide +kernel
theorem dX5_digestCord_100 : decode cX5_digestCord 100 = .ok (.aload_n 0, 1) := by decide +kernel
theorem dX5_digestCord_101 : decode cX5_digestCord 101 = .ok (.iload_n 1, 1) := by decide +kernel
theorem dX5_digestCord_102 : decode cX5_digestCord 102 = .ok (.bipush 95, 2) := by decide +kernel
theorem dX5_digestCord_104 : decode cX5_digestCord 104 = .ok (.invokevirtual 155, 3) := by decide +kernel
theorem dX5_digestCord_107 : decode cX5_digestCord 107 = .ok (.i2l, 1) := by decide +kernel
theorem dX5_digestCord_108 : decode cX5_digestCord 108 = .ok (.invokevirtual 189, 3) := by decide +kernel
theorem dX5_digestCord_111 : decode cX5_digestCord 111 = .ok (.return_, 1) := by decide +kernel
theorem dX5_digest_0 : decode cX5_digest 0 = .ok (.aload_n 0, 1) := by decide +kernel
theorem dX5_digest_1 : decode cX5_digest 1 = .ok (.iconst 0, 1) := by decide +kernel
theorem dX5_digest_2 : decode cX5_digest 2 = .ok (.putfield 35, 3) := by decide +kernel
theorem dX5_digest_5 : decode cX5_digest 5 = .ok (.aload_n 0, 1) := by decide +kernel
theorem dX5_digest_6 : decode cX5_digest 6 = .ok (.ldc2_w 193, 3) := by decide +kernel
theorem dX5_digest_9 : decode cX5_digest 9 = .ok (.putfield 185, 3) := by decide +kernel
theorem dX5_digest_12 : decode cX5_digest 12 = .ok (.iconst 0, 1) := by decide +kernel
theorem dX5_digest_13 : decode cX5_digest 13 = .ok (.istore_n 1, 1) := by decide +kernel
theorem dX5_digest_14 : decode cX5_digest 14 = .ok (.iload_n 1, 1) := by decide +kernel
theorem dX5_digest_15 : decode cX5_digest 15 = .ok (.bipush 10, 2) := by decide +kernel
theorem dX5_digest_17 : decode cX5_digest 17 = .ok (.if_icmp .ge 19, 3) := by decide +kernel
theorem dX5_digest_20 : decode cX5_digest 20 = .ok (.aload_n 0, 1) := by decide +kernel
theorem dX5_digest_21 : decode cX5_digest 21 = .ok (.aload_n 0, 1) := by decide +kernel
theorem dX5_digest_22 : decode cX5_digest 22 = .ok (.iload_n 1, 1) := by decide +kernel
theorem dX5_digest_23 : decode cX5_digest 23 = .ok (.invokevirtual 143, 3) := by decide +kernel
theorem dX5_digest_26 : decode cX5_digest 26 = .ok (.i2l, 1) := by decide +kernel
theorem dX5_digest_27 : decode cX5_digest 27 = .ok (.invokevirtual 189, 3) := by decide +kernel
theorem dX5_digest_30 : decode cX5_digest 30 = .ok (.iinc 1 1, 3) := by decide +kernel
theorem dX5_digest_33 : decode cX5_digest 33 = .ok (.goto (-19), 3) := by decide +kernel
theorem dX5_digest_36 : decode cX5_digest 36 = .ok (.iconst 0, 1) := by decide +kernel
theorem dX5_digest_37 : decode cX5_digest 37 = .ok (.istore_n 1, 1) := by decide +kernel
theorem dX5_digest_38 : decode cX5_digest 38 = .ok (.iload_n 1, 1) := by decide +kernel
theorem dX5_digest_39 : decode cX5_digest 39 = .ok (.bipush 7, 2) := by decide +kernel
theorem dX5_digest_41 : decode cX5_digest 41 = .ok (.if_icmp .ge 14, 3) := by decide +kernel
theorem dX5_digest_44 : decode cX5_digest 44 = .ok (.aload_n 0, 1) := by decide +kernel
theorem dX5_digest_45 : decode cX5_digest 45 = .ok (.iload_n 1, 1) := by decide +kernel
theorem dX5_digest_46 : decode cX5_digest 46 = .ok (.invokevirtual 195, 3) := by decide +kernel
theorem dX5_digest_49 : decode cX5_digest 49 = .ok (.iinc 1 1, 3) := by decide +kernel
theorem dX5_digest_52 : decode cX5_digest 52 = .ok (.goto (-14), 3) := by decide +kernel
theorem dX5_digest_55 : decode cX5_digest 55 = .ok (.iconst 0, 1) := by decide +kernel
theorem dX5_digest_56 : decode cX5_digest 56 = .ok (.istore_n 1, 1) := by decide +kernel
theorem dX5_digest_57 : decode cX5_digest 57 = .ok (.iload_n 1, 1) := by decide +kernel
theorem dX5_digest_58 : decode cX5_digest 58 = .ok (.bipush 6, 2) := by decide +kernel
theorem dX5_digest_60 : decode cX5_digest 60 = .ok (.if_icmp .ge 19, 3) := by decide +kernel
theorem dX5_digest_63 : decode cX5_digest 63 = .ok (.aload_n 0, 1) := by decide +kernel
theorem dX5_digest_64 : decode cX5_digest 64 = .ok (.aload_n 0, 1) := by decide +kernel
theorem dX5_digest_65 : decode cX5_digest 65 = .ok (.iload_n 1, 1) := by decide +kernel
theorem dX5_digest_66 : decode cX5_digest 66 = .ok (.invokevirtual 146, 3) := by decide +kernel
theorem dX5_digest_69 : decode cX5_digest 69 = .ok (.i2l, 1) := by decide +kernel
theorem dX5_digest_70 : decode cX5_digest 70 = .ok (.invokevirtual 189, 3) := by decide +kernel
theorem dX5_digest_73 : decode cX5_digest 73 = .ok (.iinc 1 1, 3) := by decide +kernel
theorem dX5_digest_76 : decode cX5_digest 76 = .ok (.goto (-19), 3) := by decide +kernel
theorem dX5_digest_79 : decode cX5_digest 79 = .ok (.aload_n 0, 1) := by decide +kernel
theorem dX5_digest_80 : decode cX5_digest 80 = .ok (.aload_n 0, 1) := by decide +kernel
theorem dX5_digest_81 : decode cX5_digest 81 = .ok (.bipush 95, 2) := by decide +kernel
theorem dX5_digest_83 : decode cX5_digest 83 = .ok (.invokevirtual 165, 3) := by decide +kernel
theorem dX5_digest_86 : decode cX5_digest 86 = .ok (.i2l, 1) := by decide +kernel
theorem dX5_digest_87 : decode cX5_digest 87 = .ok (.invokevirtual 189, 3) := by decide +kernel
theorem dX5_digest_90 : decode cX5_digest 90 = .ok (.aload_n 0, 1) := by decide +kernel
theorem dX5_digest_91 : decode cX5_digest 91 = .ok (.aload_n 0, 1) := by decide +kernel
theorem dX5_digest_92 : decode cX5_digest 92 = .ok (.bipush 95, 2) := by decide +kernel
theorem dX5_digest_94 : decode cX5_digest 94 = .ok (.invokevirtual 165, 3) := by decide +kernel
theorem dX5_digest_97 : decode cX5_digest 97 = .ok (.i2l, 1) := by decide +kernel
theorem dX5_digest_98 : decode cX5_digest 98 = .ok (.invokevirtual 189, 3) := by decide +kernel
theorem dX5_digest_101 : decode cX5_digest 101 = .ok (.aload_n 0, 1) := by decide +kernel
theorem dX5_digest_102 : decode cX5_digest 102 = .ok (.aload_n 0, 1) := by decide +kernel
theorem dX5_digest_103 : decode cX5_digest 103 = .ok (.sipush 1234, 3) := by decide +kernel
theorem dX5_digest_106 : decode cX5_digest 106 = .ok (.invokevirtual 165, 3) := by decide +kernel
theorem dX5_digest_109 : decode cX5_digest 109 = .ok (.i2l, 1) := by decide +kernel
theorem dX5_digest_110 : decode cX5_digest 110 = .ok (.invokevirtual 189, 3) := by decide +kernel
theorem dX5_digest_113 : decode cX5_digest 113 = .ok (.aload_n 0, 1) := by decide +kernel
theorem dX5_digest_114 : decode cX5_digest 114 = .ok (.aload_n 0, 1) := by decide +kernel
theorem dX5_digest_115 : decode cX5_digest 115 = .ok (.sipush 1234, 3) := by decide +kernel
theorem dX5_digest_118 : decode cX5_digest 118 = .ok (.invokevirtual 165, 3) := by decide +kernel
theorem dX5_digest_121 : decode cX5_digest 121 = .ok (.i2l, 1) := by decide +kernel
theorem dX5_digest_122 : decode cX5_digest 122 = .ok (.invokevirtual 189, 3) := by decide +kernel
theorem dX5_digest_125 : decode cX5_digest 125 = .ok (.aload_n 0, 1) := by decide +kernel
theorem dX5_digest_126 : decode cX5_digest 126 = .ok (.aload_n 0, 1) := by decide +kernel
theorem dX5_digest_127 : decode cX5_digest 127 = .ok (.invokevirtual 168, 3) := by decide +kernel
theorem dX5_digest_130 : decode cX5_digest 130 = .ok (.i2l, 1) := by decide +kernel
theorem dX5_digest_131 : decode cX5_digest 131 = .ok (.invokevirtual 189, 3) := by decide +kernel
theorem dX5_digest_134 : decode cX5_digest 134 = .ok (.aload_n 0, 1) := by decide +kernel
theorem dX5_digest_135 : decode cX5_digest 135 = .ok (.aload_n 0, 1) := by decide +kernel
theorem dX5_digest_136 : decode cX5_digest 136 = .ok (.invokevirtual 171, 3) := by decide +kernel
theorem dX5_digest_139 : decode cX5_digest 139 = .ok (.invokestatic 199, 3) := by decide +kernel
theorem dX5_digest_142 : decode cX5_digest 142 = .ok (.invokevirtual 189, 3) := by decide +kernel
theorem dX5_digest_145 : decode cX5_digest 145 = .ok (.aload_n 0, 1) := by decide +kernel
theorem dX5_digest_146 : decode cX5_digest 146 = .ok (.aload_n 0, 1) := by decide +kernel
theorem dX5_digest_147 : decode cX5_digest 147 = .ok (.getfield 19, 3) := by decide +kernel
theorem dX5_digest_150 : decode cX5_digest 150 = .ok (.iconst 0, 1) := by decide +kernel
theorem dX5_digest_151 : decode cX5_digest 151 = .ok (.baload, 1) := by decide +kernel
theorem dX5_digest_152 : decode cX5_digest 152 = .ok (.ifCond .eq 7, 3) := by decide +kernel
theorem dX5_digest_155 : decode cX5_digest 155 = .ok (.lconst 1, 1) := by decide +kernel
theorem dX5_digest_156 : decode cX5_digest 156 = .ok (.goto 4, 3) := by decide +kernel
theorem dX5_digest_159 : decode cX5_digest 159 = .ok (.lconst 0, 1) := by decide +kernel
theorem dX5_digest_160 : decode cX5_digest 160 = .ok (.invokevirtual 189, 3) := by decide +kernel
theorem dX5_digest_163 : decode cX5_digest 163 = .ok (.aload_n 0, 1) := by decide +kernel
theorem dX5_digest_164 : decode cX5_digest 164 = .ok (.aload_n 0, 1) := by decide +kernel
theorem dX5_digest_165 : decode cX5_digest 165 = .ok (.getfield 19, 3) := by decide +kernel
theorem dX5_digest_168 : decode cX5_digest 168 = .ok (.iconst 1, 1) := by decide +kernel
theorem dX5_digest_169 : decode cX5_digest 169 = .ok (.baload, 1) := by decide +kernel
theorem dX5_digest_170 : decode cX5_digest 170 = .ok (.ifCond .eq 7, 3) := by decide +kernel
theorem dX5_digest_173 : decode cX5_digest 173 = .ok (.lconst 1, 1) := by decide +kernel
theorem dX5_digest_174 : decode cX5_digest 174 = .ok (.goto 4, 3) := by decide +kernel
theorem dX5_digest_177 : decode cX5_digest 177 = .ok (.lconst 0, 1) := by decide +kernel
theorem dX5_digest_178 : decode cX5_digest 178 = .ok (.invokevirtual 189, 3) := by decide +kernel
theorem dX5_digest_181 : decode cX5_digest 181 = .ok (.aload_n 0, 1) := by decide +kernel
theorem dX5_digest_182 : decode cX5_digest 182 = .ok (.aload_n 0, 1) := by decide +kernel
theorem dX5_digest_183 : decode cX5_digest 183 = .ok (.getfield 104, 3) := by decide +kernel
theorem dX5_digest_186 : decode cX5_digest 186 = .ok (.i2l, 1) := by decide +kernel
theorem dX5_digest_187 : decode cX5_digest 187 = .ok (.invokevirtual 189, 3) := by decide +kernel
theorem dX5_digest_190 : decode cX5_digest 190 = .ok (.iconst 0, 1) := by decide +kernel
theorem dX5_digest_191 : decode cX5_digest 191 = .ok (.istore_n 1, 1) := by decide +kernel
theorem dX5_digest_192 : decode cX5_digest 192 = .ok (.iload_n 1, 1) := by decide +kernel
theorem dX5_digest_193 : decode cX5_digest 193 = .ok (.aload_n 0, 1) := by decide +kernel
theorem dX5_digest_194 : decode cX5_digest 194 = .ok (.getfield 104, 3) := by decide +kernel
theorem dX5_digest_197 : decode cX5_digest 197 = .ok (.if_icmp .ge 20, 3) := by decide +kernel
theorem dX5_digest_200 : decode cX5_digest 200 = .ok (.aload_n 0, 1) := by decide +kernel
theorem dX5_digest_201 : decode cX5_digest 201 = .ok (.aload_n 0, 1) := by decide +kernel
theorem dX5_digest_202 : decode cX5_digest 202 = .ok (.getfield 26, 3) := by decide +kernel
theorem dX5_digest_205 : decode cX5_digest 205 = .ok (.iload_n 1, 1) := by decide +kernel
theorem dX5_digest_206 : decode cX5_digest 206 = .ok (.iaload, 1) := by decide +kernel
theorem dX5_digest_207 : decode cX5_digest 207 = .ok (.i2l, 1) := by decide +kernel
theorem dX5_digest_208 : decode cX5_digest 208 = .ok (.invokevirtual 189, 3) := by decide +kernel
theorem dX5_digest_211 : decode cX5_digest 211 = .ok (.iinc 1 1, 3) := by decide +kernel
theorem dX5_digest_214 : decode cX5_digest 214 = .ok (.goto (-22), 3) := by decide +kernel
theorem dX5_digest_217 : decode cX5_digest 217 = .ok (.aload_n 0, 1) := by decide +kernel
theorem dX5_digest_218 : decode cX5_digest 218 = .ok (.getfield 185, 3) := by decide +kernel
theorem dX5_digest_221 : decode cX5_digest 221 = .ok (.lreturn, 1) := by decide +kernel
theorem dJ6_compare_7cf53_0 : decode cJ6_compare_7cf53 0 = .ok (.iload_n 0, 1) := by decide +kernel
theorem dJ6_compare_7cf53_1 : decode cJ6_compare_7cf53 1 = .ok (.iload_n 1, 1) := by decide +kernel
theorem dJ6_compare_7cf53_2 : decode cJ6_compare_7cf53 2 = .ok (.if_icmp .ge 7, 3) := by decide +kernel
theorem dJ6_compare_7cf53_5 : decode cJ6_compare_7cf53 5 = .ok (.iconst (-1), 1) := by decide +kernel
theorem dJ6_compare_7cf53_6 : decode cJ6_compare_7cf53 6 = .ok (.goto 13, 3) := by decide +kernel
theorem dJ6_compare_7cf53_9 : decode cJ6_compare_7cf53 9 = .ok (.iload_n 0, 1) := by decide +kernel
theorem dJ6_compare_7cf53_10 : decode cJ6_compare_7cf53 10 = .ok (.iload_n 1, 1) := by decide +kernel
theorem dJ6_compare_7cf53_11 : decode cJ6_compare_7cf53 11 = .ok (.if_icmp .ne 7, 3) := by decide +kernel
theorem dJ6_compare_7cf53_14 : decode cJ6_compare_7cf53 14 = .ok (.iconst 0, 1) := by decide +kernel
theorem dJ6_compare_7cf53_15 : decode cJ6_compare_7cf53 15 = .ok (.goto 4, 3) := by decide +kernel
theorem dJ6_compare_7cf53_18 : decode cJ6_compare_7cf53 18 = .ok (.iconst 1, 1) := by decide +kernel
theorem dJ6_compare_7cf53_19 : decode cJ6_compare_7cf53 19 = .ok (.ireturn, 1) := by decide +kernel
theorem dJ6_bitCount_0f7a4_0 : decode cJ6_bitCount_0f7a4 0 = .ok (.iload_n 0, 1) := by decide +kernel
theorem dJ6_bitCount_0f7a4_1 : decode cJ6_bitCount_0f7a4 1 = .ok (.iload_n 0, 1) := by decide +kernel
theorem dJ6_bitCount_0f7a4_2 : decode cJ6_bitCount_0f7a4 2 = .ok (.iconst 1, 1) := by decide +kernel
theorem dJ6_bitCount_0f7a4_3 : decode cJ6_bitCount_0f7a4 3 = .ok (.iushr, 1) := by decide +kernel
theorem dJ6_bitCount_0f7a4_4 : decode cJ6_bitCount_0f7a4 4 = .ok (.ldc_w 265, 3) := by decide +kernel
theorem dJ6_bitCount_0f7a4_7 : decode cJ6_bitCount_0f7a4 7 = .ok (.iand, 1) := by decide +kernel
theorem dJ6_bitCount_0f7a4_8 : decode cJ6_bitCount_0f7a4 8 = .ok (.isub, 1) := by decide +kernel
theorem dJ6_bitCount_0f7a4_9 : decode cJ6_bitCount_0f7a4 9 = .ok (.istore_n 0, 1) := by decide +kernel
theorem dJ6_bitCount_0f7a4_10 : decode cJ6_bitCount_0f7a4 10 = .ok (.iload_n 0, 1) := by decide +kernel
theorem dJ6_bitCount_0f7a4_11 : decode cJ6_bitCount_0f7a4 11 = .ok (.ldc_w 266, 3) := by decide +kernel
theorem dJ6_bitCount_0f7a4_14 : decode cJ6_bitCount_0f7a4 14 = .ok (.iand, 1) := by decide +kernel
theorem dJ6_bitCount_0f7a4_15 : decode cJ6_bitCount_0f7a4 15 = .ok (.iload_n 0, 1) := by decide +kernel
theorem dJ6_bitCount_0f7a4_16 : decode cJ6_bitCount_0f7a4 16 = .ok (.iconst 2, 1) := by decide +kernel
theorem dJ6_bitCount_0f7a4_17 : decode cJ6_bitCount_0f7a4 17 = .ok (.iushr, 1) := by decide +kernel
theorem dJ6_bitCount_0f7a4_18 : decode cJ6_bitCount_0f7a4 18 = .ok (.ldc_w 266, 3) := by decide +kernel
theorem dJ6_bitCount_0f7a4_21 : decode cJ6_bitCount_0f7a4 21 = .ok (.iand, 1) := by decide +kernel
theorem dJ6_bitCount_0f7a4_22 : decode cJ6_bitCount_0f7a4 22 = .ok (.iadd, 1) := by decide +kernel
theorem dJ6_bitCount_0f7a4_23 : decode cJ6_bitCount_0f7a4 23 = .ok (.istore_n 0, 1) := by decide +kernel
theorem dJ6_bitCount_0f7a4_24 : decode cJ6_bitCount_0f7a4 24 = .ok (.iload_n 0, 1) := by decide +kernel
theorem dJ6_bitCount_0f7a4_25 : decode cJ6_bitCount_0f7a4 25 = .ok (.iload_n 0, 1) := by decide +kernel
theorem dJ6_bitCount_0f7a4_26 : decode cJ6_bitCount_0f7a4 26 = .ok (.iconst 4, 1) := by decide +kernel
theorem dJ6_bitCount_0f7a4_27 : decode cJ6_bitCount_0f7a4 27 = .ok (.iushr, 1) := by decide +kernel
theorem dJ6_bitCount_0f7a4_28 : decode cJ6_bitCount_0f7a4 28 = .ok (.iadd, 1) := by decide +kernel
theorem dJ6_bitCount_0f7a4_29 : decode cJ6_bitCount_0f7a4 29 = .ok (.ldc_w 267, 3) := by decide +kernel
theorem dJ6_bitCount_0f7a4_32 : decode cJ6_bitCount_0f7a4 32 = .ok (.iand, 1) := by decide +kernel
theorem dJ6_bitCount_0f7a4_33 : decode cJ6_bitCount_0f7a4 33 = .ok (.istore_n 0, 1) := by decide +kernel
theorem dJ6_bitCount_0f7a4_34 : decode cJ6_bitCount_0f7a4 34 = .ok (.iload_n 0, 1) := by decide +kernel
theorem dJ6_bitCount_0f7a4_35 : decode cJ6_bitCount_0f7a4 35 = .ok (.iload_n 0, 1) := by decide +kernel
theorem dJ6_bitCount_0f7a4_36 : decode cJ6_bitCount_0f7a4 36 = .ok (.bipush 8, 2) := by decide +kernel
theorem dJ6_bitCount_0f7a4_38 : decode cJ6_bitCount_0f7a4 38 = .ok (.iushr, 1) := by decide +kernel
theorem dJ6_bitCount_0f7a4_39 : decode cJ6_bitCount_0f7a4 39 = .ok (.iadd, 1) := by decide +kernel
theorem dJ6_bitCount_0f7a4_40 : decode cJ6_bitCount_0f7a4 40 = .ok (.istore_n 0, 1) := by decide +kernel
theorem dJ6_bitCount_0f7a4_41 : decode cJ6_bitCount_0f7a4 41 = .ok (.iload_n 0, 1) := by decide +kernel
theorem dJ6_bitCount_0f7a4_42 : decode cJ6_bitCount_0f7a4 42 = .ok (.iload_n 0, 1) := by decide +kernel
theorem dJ6_bitCount_0f7a4_43 : decode cJ6_bitCount_0f7a4 43 = .ok (.bipush 16, 2) := by decide +kernel
theorem dJ6_bitCount_0f7a4_45 : decode cJ6_bitCount_0f7a4 45 = .ok (.iushr, 1) := by decide +kernel
theorem dJ6_bitCount_0f7a4_46 : decode cJ6_bitCount_0f7a4 46 = .ok (.iadd, 1) := by decide +kernel
theorem dJ6_bitCount_0f7a4_47 : decode cJ6_bitCount_0f7a4 47 = .ok (.istore_n 0, 1) := by decide +kernel
theorem dJ6_bitCount_0f7a4_48 : decode cJ6_bitCount_0f7a4 48 = .ok (.iload_n 0, 1) := by decide +kernel
theorem dJ6_bitCount_0f7a4_49 : decode cJ6_bitCount_0f7a4 49 = .ok (.bipush 63, 2) := by decide +kernel
theorem dJ6_bitCount_0f7a4_51 : decode cJ6_bitCount_0f7a4 51 = .ok (.iand, 1) := by decide +kernel
theorem dJ6_bitCount_0f7a4_52 : decode cJ6_bitCount_0f7a4 52 = .ok (.ireturn, 1) := by decide +kernel
theorem dJ9_max_7cf53_0 : decode cJ9_max_7cf53 0 = .ok (.iload_n 0, 1) := by decide +kernel
theorem dJ9_max_7cf53_1 : decode cJ9_max_7cf53 1 = .ok (.iload_n 1, 1) := by decide +kernel
theorem dJ9_max_7cf53_2 : decode cJ9_max_7cf53 2 = .ok (.if_icmp .lt 7, 3) := by decide +kernel
theorem dJ9_max_7cf53_5 : decode cJ9_max_7cf53 5 = .ok (.iload_n 0, 1) := by decide +kernel
theorem dJ9_max_7cf53_6 : decode cJ9_max_7cf53 6 = .ok (.goto 4, 3) := by decide +kernel
theorem dJ9_max_7cf53_9 : decode cJ9_max_7cf53 9 = .ok (.iload_n 1, 1) := by decide +kernel
theorem dJ9_max_7cf53_10 : decode cJ9_max_7cf53 10 = .ok (.ireturn, 1) := by decide +kernel
theorem dJ9_min_7cf53_0 : decode cJ9_min_7cf53 0 = .ok (.iload_n 0, 1) := by decide +kernel
theorem dJ9_min_7cf53_1 : decode cJ9_min_7cf53 1 = .ok (.iload_n 1, 1) := by decide +kernel
theorem dJ9_min_7cf53_2 : decode cJ9_min_7cf53 2 = .ok (.if_icmp .gt 7, 3) := by decide +kernel
theorem dJ9_min_7cf53_5 : decode cJ9_min_7cf53 5 = .ok (.iload_n 0, 1) := by decide +kernel
theorem dJ9_min_7cf53_6 : decode cJ9_min_7cf53 6 = .ok (.goto 4, 3) := by decide +kernel
theorem dJ9_min_7cf53_9 : decode cJ9_min_7cf53 9 = .ok (.iload_n 1, 1) := by decide +kernel
theorem dJ9_min_7cf53_10 : decode cJ9_min_7cf53 10 = .ok (.ireturn, 1) := by decide +kernel
theorem dL_tie_0 : decode cL_tie 0 = .ok (.aload_n 3, 1) := by decide +kernel
theorem dL_tie_1 : decode cL_tie 1 = .ok (.iconst 0, 1) := by decide +kernel
theorem dL_tie_2 : decode cL_tie 2 = .ok (.aload_n 0, 1) := by decide +kernel
theorem dL_tie_3 : decode cL_tie 3 = .ok (.iload_n 1, 1) := by decide +kernel
theorem dL_tie_4 : decode cL_tie 4 = .ok (.iload_n 2, 1) := by decide +kernel
theorem dL_tie_5 : decode cL_tie 5 = .ok (.invokevirtual 7, 3) := by decide +kernel
theorem dL_tie_8 : decode cL_tie 8 = .ok (.i2l, 1) := by decide +kernel
theorem dL_tie_9 : decode cL_tie 9 = .ok (.lastore, 1) := by decide +kernel
theorem dL_tie_10 : decode cL_tie 10 = .ok (.goto 11, 3) := by decide +kernel
theorem dL_tie_13 : decode cL_tie 13 = .ok (.astore 4, 2) := by decide +kernel
theorem dL_tie_15 : decode cL_tie 15 = .ok (.iconst 1, 1) := by decide +kernel
theorem dL_tie_16 : decode cL_tie 16 = .ok (.ireturn, 1) := by decide +kernel
theorem dL_tie_17 : decode cL_tie 17 = .ok (.astore 4, 2) := by decide +kernel
theorem dL_tie_19 : decode cL_tie 19 = .ok (.iconst 2, 1) := by decide +kernel
theorem dL_tie_20 : decode cL_tie 20 = .ok (.ireturn, 1) := by decide +kernel
theorem dL_tie_21 : decode cL_tie 21 = .ok (.iconst 0, 1) := by decide +kernel
theorem dL_tie_22 : decode cL_tie 22 = .ok (.ireturn, 1) := by decide +kernel
theorem dL_add_0 : decode cL_add 0 = .ok (.aload_n 3, 1) := by decide +kernel
theorem dL_add_1 : decode cL_add 1 = .ok (.iconst 0, 1) := by decide +kernel
theorem dL_add_2 : decode cL_add 2 = .ok (.aload_n 0, 1) := by decide +kernel
theorem dL_add_3 : decode cL_add 3 = .ok (.iload_n 1, 1) := by decide +kernel
theorem dL_add_4 : decode cL_add 4 = .ok (.iload_n 2, 1) := by decide +kernel
theorem dL_add_5 : decode cL_add 5 = .ok (.invokevirtual 17, 3) := by decide +kernel
theorem dL_add_8 : decode cL_add 8 = .ok (.i2l, 1) := by decide +kernel
theorem dL_add_9 : decode cL_add 9 = .ok (.lastore, 1) := by decide +kernel
theorem dL_add_10 : decode cL_add 10 = .ok (.goto 11, 3) := by decide +kernel
theorem dL_add_13 : decode cL_add 13 = .ok (.astore 4, 2) := by decide +kernel
theorem dL_add_15 : decode cL_add 15 = .ok (.iconst 1, 1) := by decide +kernel
theorem dL_add_16 : decode cL_add 16 = .ok (.ireturn, 1) := by decide +kernel
theorem dL_add_17 : decode cL_add 17 = .ok (.astore 4, 2) := by decide +kernel
theorem dL_add_19 : decode cL_add 19 = .ok (.iconst 2, 1) := by decide +kernel
theorem dL_add_20 : decode cL_add 20 = .ok (.ireturn, 1) := by decide +kernel
theorem dL_add_21 : decode cL_add 21 = .ok (.iconst 0, 1) := by decide +kernel
theorem dL_add_22 : decode cL_add 22 = .ok (.ireturn, 1) := by decide +kernel
theorem dL_slip_0 : decode cL_slip 0 = .ok (.aload_n 3, 1) := by decide +kernel
theorem dL_slip_1 : decode cL_slip 1 = .ok (.iconst 0, 1) := by decide +kernel
theorem dL_slip_2 : decode cL_slip 2 = .ok (.aload_n 0, 1) := by decide +kernel
theorem dL_slip_3 : decode cL_slip 3 = .ok (.iload_n 1, 1) := by decide +kernel
theorem dL_slip_4 : decode cL_slip 4 = .ok (.iload_n 2, 1) := by decide +kernel
theorem dL_slip_5 : decode cL_slip 5 = .ok (.invokevirtual 20, 3) := by decide +kernel
theorem dL_slip_8 : decode cL_slip 8 = .ok (.i2l, 1) := by decide +kernel
theorem dL_slip_9 : decode cL_slip 9 = .ok (.lastore, 1) := by decide +kernel
theorem dL_slip_10 : decode cL_slip 10 = .ok (.goto 7, 3) := by decide +kernel
theorem dL_slip_13 : decode cL_slip 13 = .ok (.astore 4, 2) := by decide +kernel
theorem dL_slip_15 : decode cL_slip 15 = .ok (.iconst 1, 1) := by decide +kernel
theorem dL_slip_16 : decode cL_slip 16 = .ok (.ireturn, 1) := by decide +kernel
theorem dL_slip_17 : decode cL_slip 17 = .ok (.iconst 0, 1) := by decide +kernel
theorem dL_slip_18 : decode cL_slip 18 = .ok (.ireturn, 1) := by decide +kernel
theorem dL_mend_0 : decode cL_mend 0 = .ok (.aload_n 2, 1) := by decide +kernel
theorem dL_mend_1 : decode cL_mend 1 = .ok (.iconst 0, 1) := by decide +kernel
theorem dL_mend_2 : decode cL_mend 2 = .ok (.aload_n 0, 1) := by decide +kernel
theorem dL_mend_3 : decode cL_mend 3 = .ok (.iload_n 1, 1) := by decide +kernel
theorem dL_mend_4 : decode cL_mend 4 = .ok (.invokevirtual 23, 3) := by decide +kernel
theorem dL_mend_7 : decode cL_mend 7 = .ok (.i2l, 1) := by decide +kernel
theorem dL_mend_8 : decode cL_mend 8 = .ok (.lastore, 1) := by decide +kernel
theorem dL_mend_9 : decode cL_mend 9 = .ok (.goto 6, 3) := by decide +kernel
theorem dL_mend_12 : decode cL_mend 12 = .ok (.astore_n 3, 1) := by decide +kernel
theorem dL_mend_13 : decode cL_mend 13 = .ok (.iconst 1, 1) := by decide +kernel
theorem dL_mend_14 : decode cL_mend 14 = .ok (.ireturn, 1) := by decide +kernel
theorem dL_mend_15 : decode cL_mend 15 = .ok (.iconst 0, 1) := by decide +kernel
theorem dL_mend_16 : decode cL_mend 16 = .ok (.ireturn, 1) := by decide +kernel
theorem dL_renew_0 : decode cL_renew 0 = .ok (.aload_n 2, 1) := by decide +kernel
theorem dL_renew_1 : decode cL_renew 1 = .ok (.iconst 0, 1) := by decide +kernel
theorem dL_renew_2 : decode cL_renew 2 = .ok (.aload_n 0, 1) := by decide +kernel
theorem dL_renew_3 : decode cL_renew 3 = .ok (.iload_n 1, 1) := by decide +kernel
theorem dL_renew_4 : decode cL_renew 4 = .ok (.invokevirtual 27, 3) := by decide +kernel
theorem dL_renew_7 : decode cL_renew 7 = .ok (.i2l, 1) := by decide +kernel
theorem dL_renew_8 : decode cL_renew 8 = .ok (.lastore, 1) := by decide +kernel
theorem dL_renew_9 : decode cL_renew 9 = .ok (.goto 6, 3) := by decide +kernel
theorem dL_renew_12 : decode cL_renew 12 = .ok (.astore_n 3, 1) := by decide +kernel
theorem dL_renew_13 : decode cL_renew 13 = .ok (.iconst 1, 1) := by decide +kernel
theorem dL_renew_14 : decode cL_renew 14 = .ok (.ireturn, 1) := by decide +kernel
theorem dL_renew_15 : decode cL_renew 15 = .ok (.iconst 0, 1) := by decide +kernel
theorem dL_renew_16 : decode cL_renew 16 = .ok (.ireturn, 1) := by decide +kernel
theorem dL_dye_0 : decode cL_dye 0 = .ok (.aload_n 3, 1) := by decide +kernel
theorem dL_dye_1 : decode cL_dye 1 = .ok (.iconst 0, 1) := by decide +kernel
theorem dL_dye_2 : decode cL_dye 2 = .ok (.aload_n 0, 1) := by decide +kernel
theorem dL_dye_3 : decode cL_dye 3 = .ok (.iload_n 1, 1) := by decide +kernel
theorem dL_dye_4 : decode cL_dye 4 = .ok (.iload_n 2, 1) := by decide +kernel
theorem dL_dye_5 : decode cL_dye 5 = .ok (.invokevirtual 30, 3) := by decide +kernel
theorem dL_dye_8 : decode cL_dye 8 = .ok (.i2l, 1) := by decide +kernel
theorem dL_dye_9 : decode cL_dye 9 = .ok (.lastore, 1) := by decide +kernel
theorem dL_dye_10 : decode cL_dye 10 = .ok (.goto 11, 3) := by decide +kernel
theorem dL_dye_13 : decode cL_dye 13 = .ok (.astore 4, 2) := by decide +kernel
theorem dL_dye_15 : decode cL_dye 15 = .ok (.iconst 1, 1) := by decide +kernel
theorem dL_dye_16 : decode cL_dye 16 = .ok (.ireturn, 1) := by decide +kernel
theorem dL_dye_17 : decode cL_dye 17 = .ok (.astore 4, 2) := by decide +kernel
theorem dL_dye_19 : decode cL_dye 19 = .ok (.iconst 2, 1) := by decide +kernel
theorem dL_dye_20 : decode cL_dye 20 = .ok (.ireturn, 1) := by decide +kernel
theorem dL_dye_21 : decode cL_dye 21 = .ok (.iconst 0, 1) := by decide +kernel
theorem dL_dye_22 : decode cL_dye 22 = .ok (.ireturn, 1) := by decide +kernel
theorem dL_set_0 : decode cL_set 0 = .ok (.aload_n 2, 1) := by decide +kernel
theorem dL_set_1 : decode cL_set 1 = .ok (.iconst 0, 1) := by decide +kernel
theorem dL_set_2 : decode cL_set 2 = .ok (.aload_n 0, 1) := by decide +kernel
theorem dL_set_3 : decode cL_set 3 = .ok (.iload_n 1, 1) := by decide +kernel
theorem dL_set_4 : decode cL_set 4 = .ok (.invokevirtual 33, 3) := by decide +kernel
theorem dL_set_7 : decode cL_set 7 = .ok (.i2l, 1) := by decide +kernel
theorem dL_set_8 : decode cL_set 8 = .ok (.lastore, 1) := by decide +kernel
theorem dL_set_9 : decode cL_set 9 = .ok (.goto 6, 3) := by decide +kernel
theorem dL_set_12 : decode cL_set 12 = .ok (.astore_n 3, 1) := by decide +kernel
theorem dL_set_13 : decode cL_set 13 = .ok (.iconst 1, 1) := by decide +kernel
theorem dL_set_14 : decode cL_set 14 = .ok (.ireturn, 1) := by decide +kernel
theorem dL_set_15 : decode cL_set 15 = .ok (.iconst 0, 1) := by decide +kernel
theorem dL_set_16 : decode cL_set 16 = .ok (.ireturn, 1) := by decide +kernel
theorem dL_append_0 : decode cL_append 0 = .ok (.aload_n 2, 1) := by decide +kernel
theorem dL_append_1 : decode cL_append 1 = .ok (.iconst 0, 1) := by decide +kernel
theorem dL_append_2 : decode cL_append 2 = .ok (.aload_n 0, 1) := by decide +kernel
theorem dL_append_3 : decode cL_append 3 = .ok (.iload_n 1, 1) := by decide +kernel
theorem dL_append_4 : decode cL_append 4 = .ok (.invokevirtual 36, 3) := by decide +kernel
theorem dL_append_7 : decode cL_append 7 = .ok (.i2l, 1) := by decide +kernel
theorem dL_append_8 : decode cL_append 8 = .ok (.lastore, 1) := by decide +kernel
theorem dL_append_9 : decode cL_append 9 = .ok (.goto 9, 3) := by decide +kernel
theorem dL_append_12 : decode cL_append 12 = .ok (.astore_n 3, 1) := by decide +kernel
theorem dL_append_13 : decode cL_append 13 = .ok (.iconst 1, 1) := by decide +kernel
theorem dL_append_14 : decode cL_append 14 = .ok (.ireturn, 1) := by decide +kernel
theorem dL_append_15 : decode cL_append 15 = .ok (.astore_n 3, 1) := by decide +kernel
theorem dL_append_16 : decode cL_append 16 = .ok (.iconst 2, 1) := by decide +kernel
theorem dL_append_17 : decode cL_append 17 = .ok (.ireturn, 1) := by decide +kernel
theorem dL_append_18 : decode cL_append 18 = .ok (.iconst 0, 1) := by decide +kernel
theorem dL_append_19 : decode cL_append 19 = .ok (.ireturn, 1) := by decide +kernel
theorem dL_run_0 : decode cL_run 0 = .ok (.aload_n 1, 1) := by decide +kernel
theorem dL_run_1 : decode cL_run 1 = .ok (.iconst 0, 1) := by decide +kernel
theorem dL_run_2 : decode cL_run 2 = .ok (.aload_n 0, 1) := by decide +kernel
theorem dL_run_3 : decode cL_run 3 = .ok (.invokevirtual 41, 3) := by decide +kernel
theorem dL_run_6 : decode cL_run 6 = .ok (.i2l, 1) := by decide +kernel
theorem dL_run_7 : decode cL_run 7 = .ok (.lastore, 1) := by decide +kernel
theorem dL_run_8 : decode cL_run 8 = .ok (.goto 6, 3) := by decide +kernel
theorem dL_run_11 : decode cL_run 11 = .ok (.astore_n 2, 1) := by decide +kernel
theorem dL_run_12 : decode cL_run 12 = .ok (.iconst 1, 1) := by decide +kernel
theorem dL_run_13 : decode cL_run 13 = .ok (.ireturn, 1) := by decide +kernel
theorem dL_run_14 : decode cL_run 14 = .ok (.iconst 0, 1) := by decide +kernel
theorem dL_run_15 : decode cL_run 15 = .ok (.ireturn, 1) := by decide +kernel
theorem dL_keep_0 : decode cL_keep 0 = .ok (.aload_n 2, 1) := by decide +kernel
theorem dL_keep_1 : decode cL_keep 1 = .ok (.iconst 0, 1) := by decide +kernel
theorem dL_keep_2 : decode cL_keep 2 = .ok (.aload_n 0, 1) := by decide +kernel
theorem dL_keep_3 : decode cL_keep 3 = .ok (.iload_n 1, 1) := by decide +kernel
theorem dL_keep_4 : decode cL_keep 4 = .ok (.invokevirtual 45, 3) := by decide +kernel
theorem dL_keep_7 : decode cL_keep 7 = .ok (.i2l, 1) := by decide +kernel
theorem dL_keep_8 : decode cL_keep 8 = .ok (.lastore, 1) := by decide +kernel
theorem dL_keep_9 : decode cL_keep 9 = .ok (.goto 6, 3) := by decide +kernel
theorem dL_keep_12 : decode cL_keep 12 = .ok (.astore_n 3, 1) := by decide +kernel
theorem dL_keep_13 : decode cL_keep 13 = .ok (.iconst 1, 1) := by decide +kernel
theorem dL_keep_14 : decode cL_keep 14 = .ok (.ireturn, 1) := by decide +kernel
theorem dL_keep_15 : decode cL_keep 15 = .ok (.iconst 0, 1) := by decide +kernel
theorem dL_keep_16 : decode cL_keep 16 = .ok (.ireturn, 1) := by decide +kernel
theorem dL_goBack_0 : decode cL_goBack 0 = .ok (.aload_n 2, 1) := by decide +kernel
theorem dL_goBack_1 : decode cL_goBack 1 = .ok (.iconst 0, 1) := by decide +kernel
theorem dL_goBack_2 : decode cL_goBack 2 = .ok (.aload_n 0, 1) := by decide +kernel
theorem dL_goBack_3 : decode cL_goBack 3 = .ok (.iload_n 1, 1) := by decide +kernel
theorem dL_goBack_4 : decode cL_goBack 4 = .ok (.invokevirtual 48, 3) := by decide +kernel
theorem dL_goBack_7 : decode cL_goBack 7 = .ok (.i2l, 1) := by decide +kernel
theorem dL_goBack_8 : decode cL_goBack 8 = .ok (.lastore, 1) := by decide +kernel
theorem dL_goBack_9 : decode cL_goBack 9 = .ok (.goto 9, 3) := by decide +kernel
theorem dL_goBack_12 : decode cL_goBack 12 = .ok (.astore_n 3, 1) := by decide +kernel
theorem dL_goBack_13 : decode cL_goBack 13 = .ok (.iconst 1, 1) := by decide +kernel
theorem dL_goBack_14 : decode cL_goBack 14 = .ok (.ireturn, 1) := by decide +kernel
theorem dL_goBack_15 : decode cL_goBack 15 = .ok (.astore_n 3, 1) := by decide +kernel
theorem dL_goBack_16 : decode cL_goBack 16 = .ok (.iconst 2, 1) := by decide +kernel
theorem dL_goBack_17 : decode cL_goBack 17 = .ok (.ireturn, 1) := by decide +kernel
theorem dL_goBack_18 : decode cL_goBack 18 = .ok (.iconst 0, 1) := by decide +kernel
theorem dL_goBack_19 : decode cL_goBack 19 = .ok (.ireturn, 1) := by decide +kernel
theorem dL_undo_0 : decode cL_undo 0 = .ok (.aload_n 1, 1) := by decide +kernel
theorem dL_undo_1 : decode cL_undo 1 = .ok (.iconst 0, 1) := by decide +kernel
theorem dL_undo_2 : decode cL_undo 2 = .ok (.aload_n 0, 1) := by decide +kernel
theorem dL_undo_3 : decode cL_undo 3 = .ok (.invokevirtual 51, 3) := by decide +kernel
theorem dL_undo_6 : decode cL_undo 6 = .ok (.i2l, 1) := by decide +kernel
theorem dL_undo_7 : decode cL_undo 7 = .ok (.lastore, 1) := by decide +kernel
theorem dL_undo_8 : decode cL_undo 8 = .ok (.goto 6, 3) := by decide +kernel
theorem dL_undo_11 : decode cL_undo 11 = .ok (.astore_n 2, 1) := by decide +kernel
theorem dL_undo_12 : decode cL_undo 12 = .ok (.iconst 1, 1) := by decide +kernel
theorem dL_undo_13 : decode cL_undo 13 = .ok (.ireturn, 1) := by decide +kernel
theorem dL_undo_14 : decode cL_undo 14 = .ok (.iconst 0, 1) := by decide +kernel
theorem dL_undo_15 : decode cL_undo 15 = .ok (.ireturn, 1) := by decide +kernel
theorem dL_cordOf_0 : decode cL_cordOf 0 = .ok (.aload_n 3, 1) := by decide +kernel
theorem dL_cordOf_1 : decode cL_cordOf 1 = .ok (.iconst 0, 1) := by decide +kernel
theorem dL_cordOf_2 : decode cL_cordOf 2 = .ok (.aload_n 0, 1) := by decide +kernel
theorem dL_cordOf_3 : decode cL_cordOf 3 = .ok (.iload_n 1, 1) := by decide +kernel
theorem dL_cordOf_4 : decode cL_cordOf 4 = .ok (.iload_n 2, 1) := by decide +kernel
theorem dL_cordOf_5 : decode cL_cordOf 5 = .ok (.invokevirtual 54, 3) := by decide +kernel
theorem dL_cordOf_8 : decode cL_cordOf 8 = .ok (.i2l, 1) := by decide +kernel
theorem dL_cordOf_9 : decode cL_cordOf 9 = .ok (.lastore, 1) := by decide +kernel
theorem dL_cordOf_10 : decode cL_cordOf 10 = .ok (.goto 11, 3) := by decide +kernel
theorem dL_cordOf_13 : decode cL_cordOf 13 = .ok (.astore 4, 2) := by decide +kernel
theorem dL_cordOf_15 : decode cL_cordOf 15 = .ok (.iconst 1, 1) := by decide +kernel
theorem dL_cordOf_16 : decode cL_cordOf 16 = .ok (.ireturn, 1) := by decide +kernel
theorem dL_cordOf_17 : decode cL_cordOf 17 = .ok (.astore 4, 2) := by decide +kernel
theorem dL_cordOf_19 : decode cL_cordOf 19 = .ok (.iconst 2, 1) := by decide +kernel
theorem dL_cordOf_20 : decode cL_cordOf 20 = .ok (.ireturn, 1) := by decide +kernel
theorem dL_cordOf_21 : decode cL_cordOf 21 = .ok (.iconst 0, 1) := by decide +kernel
theorem dL_cordOf_22 : decode cL_cordOf 22 = .ok (.ireturn, 1) := by decide +kernel
theorem dL_placeOf_0 : decode cL_placeOf 0 = .ok (.aload 4, 2) := by decide +kernel
theorem dL_placeOf_2 : decode cL_placeOf 2 = .ok (.iconst 0, 1) := by decide +kernel
theorem dL_placeOf_3 : decode cL_placeOf 3 = .ok (.aload_n 0, 1) := by decide +kernel
theorem dL_placeOf_4 : decode cL_placeOf 4 = .ok (.iload_n 1, 1) := by decide +kernel
theorem dL_placeOf_5 : decode cL_placeOf 5 = .ok (.iload_n 2, 1) := by decide +kernel
theorem dL_placeOf_6 : decode cL_placeOf 6 = .ok (.iload_n 3, 1) := by decide +kernel
theorem dL_placeOf_7 : decode cL_placeOf 7 = .ok (.invokevirtual 57, 3) := by decide +kernel
theorem dL_placeOf_10 : decode cL_placeOf 10 = .ok (.i2l, 1) := by decide +kernel
theorem dL_placeOf_11 : decode cL_placeOf 11 = .ok (.lastore, 1) := by decide +kernel
theorem dL_placeOf_12 : decode cL_placeOf 12 = .ok (.goto 11, 3) := by decide +kernel
theorem dL_placeOf_15 : decode cL_placeOf 15 = .ok (.astore 5, 2) := by decide +kernel
theorem dL_placeOf_17 : decode cL_placeOf 17 = .ok (.iconst 1, 1) := by decide +kernel
theorem dL_placeOf_18 : decode cL_placeOf 18 = .ok (.ireturn, 1) := by decide +kernel
theorem dL_placeOf_19 : decode cL_placeOf 19 = .ok (.astore 5, 2) := by decide +kernel
theorem dL_placeOf_21 : decode cL_placeOf 21 = .ok (.iconst 2, 1) := by decide +kernel
theorem dL_placeOf_22 : decode cL_placeOf 22 = .ok (.ireturn, 1) := by decide +kernel
theorem dL_placeOf_23 : decode cL_placeOf 23 = .ok (.iconst 0, 1) := by decide +kernel
theorem dL_placeOf_24 : decode cL_placeOf 24 = .ok (.ireturn, 1) := by decide +kernel
theorem dL_part_0 : decode cL_part 0 = .ok (.aload_n 3, 1) := by decide +kernel
theorem dL_part_1 : decode cL_part 1 = .ok (.iconst 0, 1) := by decide +kernel
theorem dL_part_2 : decode cL_part 2 = .ok (.aload_n 0, 1) := by decide +kernel
theorem dL_part_3 : decode cL_part 3 = .ok (.iload_n 1, 1) := by decide +kernel
theorem dL_part_4 : decode cL_part 4 = .ok (.iload_n 2, 1) := by decide +kernel
theorem dL_part_5 : decode cL_part 5 = .ok (.invokevirtual 61, 3) := by decide +kernel
theorem dL_part_8 : decode cL_part 8 = .ok (.i2l, 1) := by decide +kernel
theorem dL_part_9 : decode cL_part 9 = .ok (.lastore, 1) := by decide +kernel
theorem dL_part_10 : decode cL_part 10 = .ok (.goto 11, 3) := by decide +kernel
theorem dL_part_13 : decode cL_part 13 = .ok (.astore 4, 2) := by decide +kernel
theorem dL_part_15 : decode cL_part 15 = .ok (.iconst 1, 1) := by decide +kernel
theorem dL_part_16 : decode cL_part 16 = .ok (.ireturn, 1) := by decide +kernel
theorem dL_part_17 : decode cL_part 17 = .ok (.astore 4, 2) := by decide +kernel
theorem dL_part_19 : decode cL_part 19 = .ok (.iconst 2, 1) := by decide +kernel
theorem dL_part_20 : decode cL_part 20 = .ok (.ireturn, 1) := by decide +kernel
theorem dL_part_21 : decode cL_part 21 = .ok (.iconst 0, 1) := by decide +kernel
theorem dL_part_22 : decode cL_part 22 = .ok (.ireturn, 1) := by decide +kernel
theorem dL_count_0 : decode cL_count 0 = .ok (.aload_n 2, 1) := by decide +kernel
theorem dL_count_1 : decode cL_count 1 = .ok (.iconst 0, 1) := by decide +kernel
theorem dL_count_2 : decode cL_count 2 = .ok (.aload_n 0, 1) := by decide +kernel
theorem dL_count_3 : decode cL_count 3 = .ok (.iload_n 1, 1) := by decide +kernel
theorem dL_count_4 : decode cL_count 4 = .ok (.invokevirtual 64, 3) := by decide +kernel
theorem dL_count_7 : decode cL_count 7 = .ok (.i2l, 1) := by decide +kernel
theorem dL_count_8 : decode cL_count 8 = .ok (.lastore, 1) := by decide +kernel
theorem dL_count_9 : decode cL_count 9 = .ok (.goto 6, 3) := by decide +kernel
theorem dL_count_12 : decode cL_count 12 = .ok (.astore_n 3, 1) := by decide +kernel
theorem dL_count_13 : decode cL_count 13 = .ok (.iconst 1, 1) := by decide +kernel
theorem dL_count_14 : decode cL_count 14 = .ok (.ireturn, 1) := by decide +kernel
theorem dL_count_15 : decode cL_count 15 = .ok (.iconst 0, 1) := by decide +kernel
theorem dL_count_16 : decode cL_count 16 = .ok (.ireturn, 1) := by decide +kernel
theorem dL_byHue_0 : decode cL_byHue 0 = .ok (.aload_n 2, 1) := by decide +kernel
theorem dL_byHue_1 : decode cL_byHue 1 = .ok (.iconst 0, 1) := by decide +kernel
theorem dL_byHue_2 : decode cL_byHue 2 = .ok (.aload_n 0, 1) := by decide +kernel
theorem dL_byHue_3 : decode cL_byHue 3 = .ok (.iload_n 1, 1) := by decide +kernel
theorem dL_byHue_4 : decode cL_byHue 4 = .ok (.invokevirtual 67, 3) := by decide +kernel
theorem dL_byHue_7 : decode cL_byHue 7 = .ok (.i2l, 1) := by decide +kernel
theorem dL_byHue_8 : decode cL_byHue 8 = .ok (.lastore, 1) := by decide +kernel
theorem dL_byHue_9 : decode cL_byHue 9 = .ok (.goto 6, 3) := by decide +kernel
theorem dL_byHue_12 : decode cL_byHue 12 = .ok (.astore_n 3, 1) := by decide +kernel
theorem dL_byHue_13 : decode cL_byHue 13 = .ok (.iconst 1, 1) := by decide +kernel
theorem dL_byHue_14 : decode cL_byHue 14 = .ok (.ireturn, 1) := by decide +kernel
theorem dL_byHue_15 : decode cL_byHue 15 = .ok (.iconst 0, 1) := by decide +kernel
theorem dL_byHue_16 : decode cL_byHue 16 = .ok (.ireturn, 1) := by decide +kernel
theorem dL_whyNot_0 : decode cL_whyNot 0 = .ok (.aload_n 3, 1) := by decide +kernel
theorem dL_whyNot_1 : decode cL_whyNot 1 = .ok (.iconst 0, 1) := by decide +kernel
theorem dL_whyNot_2 : decode cL_whyNot 2 = .ok (.aload_n 0, 1) := by decide +kernel
theorem dL_whyNot_3 : decode cL_whyNot 3 = .ok (.iload_n 1, 1) := by decide +kernel
theorem dL_whyNot_4 : decode cL_whyNot 4 = .ok (.iload_n 2, 1) := by decide +kernel
theorem dL_whyNot_5 : decode cL_whyNot 5 = .ok (.invokevirtual 70, 3) := by decide +kernel
theorem dL_whyNot_8 : decode cL_whyNot 8 = .ok (.i2l, 1) := by decide +kernel
theorem dL_whyNot_9 : decode cL_whyNot 9 = .ok (.lastore, 1) := by decide +kernel
theorem dL_whyNot_10 : decode cL_whyNot 10 = .ok (.goto 11, 3) := by decide +kernel
theorem dL_whyNot_13 : decode cL_whyNot 13 = .ok (.astore 4, 2) := by decide +kernel
theorem dL_whyNot_15 : decode cL_whyNot 15 = .ok (.iconst 1, 1) := by decide +kernel
theorem dL_whyNot_16 : decode cL_whyNot 16 = .ok (.ireturn, 1) := by decide +kernel
theorem dL_whyNot_17 : decode cL_whyNot 17 = .ok (.astore 4, 2) := by decide +kernel
theorem dL_whyNot_19 : decode cL_whyNot 19 = .ok (.iconst 2, 1) := by decide +kernel
theorem dL_whyNot_20 : decode cL_whyNot 20 = .ok (.ireturn, 1) := by decide +kernel
theorem dL_whyNot_21 : decode cL_whyNot 21 = .ok (.iconst 0, 1) := by decide +kernel
theorem dL_whyNot_22 : decode cL_whyNot 22 = .ok (.ireturn, 1) := by decide +kernel
theorem dL_howOften_0 : decode cL_howOften 0 = .ok (.aload_n 3, 1) := by decide +kernel
theorem dL_howOften_1 : decode cL_howOften 1 = .ok (.iconst 0, 1) := by decide +kernel
theorem dL_howOften_2 : decode cL_howOften 2 = .ok (.aload_n 0, 1) := by decide +kernel
theorem dL_howOften_3 : decode cL_howOften 3 = .ok (.iload_n 1, 1) := by decide +kernel
theorem dL_howOften_4 : decode cL_howOften 4 = .ok (.iload_n 2, 1) := by decide +kernel
theorem dL_howOften_5 : decode cL_howOften 5 = .ok (.invokevirtual 73, 3) := by decide +kernel
theorem dL_howOften_8 : decode cL_howOften 8 = .ok (.i2l, 1) := by decide +kernel
theorem dL_howOften_9 : decode cL_howOften 9 = .ok (.lastore, 1) := by decide +kernel
theorem dL_howOften_10 : decode cL_howOften 10 = .ok (.goto 11, 3) := by decide +kernel
theorem dL_howOften_13 : decode cL_howOften 13 = .ok (.astore 4, 2) := by decide +kernel
theorem dL_howOften_15 : decode cL_howOften 15 = .ok (.iconst 1, 1) := by decide +kernel
theorem dL_howOften_16 : decode cL_howOften 16 = .ok (.ireturn, 1) := by decide +kernel
theorem dL_howOften_17 : decode cL_howOften 17 = .ok (.astore 4, 2) := by decide +kernel
theorem dL_howOften_19 : decode cL_howOften 19 = .ok (.iconst 2, 1) := by decide +kernel
theorem dL_howOften_20 : decode cL_howOften 20 = .ok (.ireturn, 1) := by decide +kernel
theorem dL_howOften_21 : decode cL_howOften 21 = .ok (.iconst 0, 1) := by decide +kernel
theorem dL_howOften_22 : decode cL_howOften 22 = .ok (.ireturn, 1) := by decide +kernel
theorem dL_cordsFor_0 : decode cL_cordsFor 0 = .ok (.aload_n 3, 1) := by decide +kernel
theorem dL_cordsFor_1 : decode cL_cordsFor 1 = .ok (.iconst 0, 1) := by decide +kernel
theorem dL_cordsFor_2 : decode cL_cordsFor 2 = .ok (.aload_n 0, 1) := by decide +kernel
theorem dL_cordsFor_3 : decode cL_cordsFor 3 = .ok (.iload_n 1, 1) := by decide +kernel
theorem dL_cordsFor_4 : decode cL_cordsFor 4 = .ok (.iload_n 2, 1) := by decide +kernel
theorem dL_cordsFor_5 : decode cL_cordsFor 5 = .ok (.invokevirtual 76, 3) := by decide +kernel
theorem dL_cordsFor_8 : decode cL_cordsFor 8 = .ok (.i2l, 1) := by decide +kernel
theorem dL_cordsFor_9 : decode cL_cordsFor 9 = .ok (.lastore, 1) := by decide +kernel
theorem dL_cordsFor_10 : decode cL_cordsFor 10 = .ok (.goto 7, 3) := by decide +kernel
theorem dL_cordsFor_13 : decode cL_cordsFor 13 = .ok (.astore 4, 2) := by decide +kernel
theorem dL_cordsFor_15 : decode cL_cordsFor 15 = .ok (.iconst 1, 1) := by decide +kernel
theorem dL_cordsFor_16 : decode cL_cordsFor 16 = .ok (.ireturn, 1) := by decide +kernel
theorem dL_cordsFor_17 : decode cL_cordsFor 17 = .ok (.iconst 0, 1) := by decide +kernel
theorem dL_cordsFor_18 : decode cL_cordsFor 18 = .ok (.ireturn, 1) := by decide +kernel
end
section
/-! ===== my own rows: all objects in one pool, by their names 0, 1, 2 .. (the order in which they were made); ad: a name's address; g: what a name holds ===== -/
def zT (cy : Nat → ClassId) : List (ClassId × FieldType) := [(cy 0, .char), (cy 1, .int), (cy 2, .boolean), (cy 3, .object "HerdCords$Cord"), (cy 4, .object "HerdCords$Herd"), (cy 5, .long)]
def zw (K : Nat) (ad : Nat → Nat) (g : Nat → va_E) : va_W := (List.range K).map (fun n => (ad n, g n))
theorem zw_get {K : Nat} {ad : Nat → Nat} {g : Nat → va_E} {n : Nat} (h : n < K) : (zw K ad g)[n]? = some (ad n, g n) := by
  simp [zw, List.getElem?_map, List.getElem?_range, h]
theorem zw_inv {K : Nat} {ad : Nat → Nat} {g : Nat → va_E} {n : Nat} {q : Nat × va_E} (h : (zw K ad g)[n]? = some q) : n < K ∧ q = (ad n, g n) := by
  by_cases hn : n < K
  · rw [zw_get hn] at h; exact ⟨hn, (Option.some.inj h).symm⟩
  · rw [List.getElem?_eq_none (by simp [zw]; omega)] at h; cases h
theorem zw_set {K : Nat} {ad : Nat → Nat} {g : Nat → va_E} {n : Nat} {e : va_E} (h : n < K) : (zw K ad g).set n (ad n, e) = zw K ad (va_up g n e) := by
  apply List.ext_getElem?
  intro i
  by_cases hi : i < K
  · rw [zw_get hi]
    by_cases hin : n = i
    · subst hin
      rw [List.getElem?_set_self (by simp [zw]; exact h), va_up_self]
    · rw [List.getElem?_set_ne hin, zw_get hi, va_up_ne _ _ (Ne.symm hin)]
  · rw [List.getElem?_eq_none (by simp [zw]; omega), List.getElem?_eq_none (by simp [zw]; omega)]
theorem zw_push {K : Nat} {ad : Nat → Nat} {g : Nat → va_E} {q : Nat} {e : va_E} : zw K ad g ++ [(q, e)] = zw (K + 1) (va_up ad K q) (va_up g K e) := by
  unfold zw
  rw [List.range_succ, List.map_append, List.map_singleton, va_up_self, va_up_self]
  congr 1
  apply List.map_congr_left
  intro n hn
  have h1 : n ≠ K := Nat.ne_of_lt (List.mem_range.mp hn)
  rw [va_up_ne _ _ h1, va_up_ne _ _ h1]
def zP (D : va_G) (K : Nat) (ad : Nat → Nat) (g : Nat → va_E) (A : Nat → Prop) (H : Heap) : Prop := va_P D vwCl (zw K ad g) H ∧ va_D A (zw K ad g)
/-- the cells that a method may change: the pool's, and new ones -/
def zA (K : Nat) (ad : Nat → Nat) (sz : Nat) : Nat → Prop := fun q => (∃ n, n < K ∧ q = ad n) ∨ sz ≤ q
def zIn (D : va_G) (cy : Nat → ClassId) (K : Nat) (ad : Nat → Nat) (g : Nat → va_E) (sz : Nat) (U : State) : Prop :=
  U.heap.size = sz ∧ va_P D vwCl (zw K ad g) U.heap ∧ va_K D vwCl (zT cy) U ∧ va_D (fun _ => True) (zw K ad g)
def zOut (D : va_G) (cy : Nat → ClassId) (K : Nat) (ad : Nat → Nat) (sz : Nat) (g : Nat → va_E) (t : State) : Prop :=
  va_P D vwCl (zw K ad g) t.heap ∧ va_K D vwCl (zT cy) t ∧ va_D (zA K ad sz) (zw K ad g)
theorem zw_D {A B : Nat → Prop} {K : Nat} {ad : Nat → Nat} {g g' : Nat → va_E} (h : va_D A (zw K ad g)) (hAB : ∀ n, n < K → A (ad n) → B (ad n)) : va_D B (zw K ad g') := by
  refine ⟨fun i j p q hp hq hpq => ?_, fun k q hk => ?_⟩
  · obtain ⟨h1, rfl⟩ := zw_inv hp
    obtain ⟨h2, rfl⟩ := zw_inv hq
    exact h.1 i j _ _ (zw_get h1) (zw_get h2) hpq
  · obtain ⟨h1, rfl⟩ := zw_inv hk
    exact hAB k h1 (h.2 k _ (zw_get h1))
theorem zP.A {D : va_G} {K : Nat} {ad : Nat → Nat} {g : Nat → va_E} {A : Nat → Prop} {H : Heap} (h : zP D K ad g A H) {n : Nat} (hn : n < K) : A (ad n) := h.2.2 n _ (zw_get hn)
/-- a walk's standing facts -/
def zC (p : Program) (s : State) (m : MethodId) (args : Array Value) (c : Code) (meth : Method) (cc : ByteArray) (nL : Nat) (own : String) (D : va_G) (cy : Nat → ClassId) (A : Nat → Prop) : Prop :=
  p.tables.exec = Jvm.exec ∧ c.code = cc ∧ c.maxLocals = nL ∧ s.vm.findClass own = some m.cls ∧ (∀ w ∈ zW, w.before args s = true) ∧ va_K D vwCl (zT cy) s ∧ (∀ q, s.heap.size ≤ q → A q) ∧ meth.locks = false
/-- what else stays: all names but those of P -/
def zFr (P : Nat → Prop) (g g' : Nat → va_E) : Prop := ∀ x, ¬ P x → g' x = g x
theorem zFr.rf {P : Nat → Prop} {g : Nat → va_E} : zFr P g g := fun _ _ => rfl
theorem zFr.tr {P : Nat → Prop} {g g1 g2 : Nat → va_E} (h1 : zFr P g g1) (h2 : zFr P g1 g2) : zFr P g g2 := fun x hx => (h2 x hx).trans (h1 x hx)
theorem zFr.mono {P P' : Nat → Prop} {g g1 : Nat → va_E} (h : zFr P g g1) (hP : ∀ x, P x → P' x) : zFr P' g g1 := fun x hx => h x (fun q => hx (hP x q))
theorem zFr.up {P : Nat → Prop} {g g1 : Nat → va_E} {n : Nat} {e : va_E} (h : zFr P g g1) (hn : P n) : zFr P g (va_up g1 n e) := fun x hx => (va_up_ne _ _ (fun q => hx (by rw [q]; exact hn))).trans (h x hx)
/-- an index into a row of len places -/
def zIx (i : Int32) (len j : Nat) : Prop := vp_in i len ∧ i.toNatClampNeg = j
theorem zIx_nI {j len : Nat} (h : j < len) (hl : len < 2 ^ 31) : zIx (nI j) len j := ⟨vp_in_nI h hl, nI_clamp (by omega)⟩
theorem zIx_of {i : Int32} {j len : Nat} (hi : i = nI j) (h : j < len) (hl : len < 2 ^ 31) : zIx i len j := by rw [hi]; exact zIx_nI h hl
def zFd (own : String) (index ci k : Nat) : Prop := ∃ (C : String) (T : u_T) (N : Nat), vwCl[ci]? = some (C, T, N) ∧ (∀ w ∈ u_ws C T N, w ∈ zW) ∧ k < N ∧ Cond.fieldLink own index (T k).1 (T k).2.1 (T k).2.2.1 ∈ zW
def zFp (own : String) (index ci k : Nat) (ty : FieldType) (fin : Bool) : Prop := ∃ (C : String) (T : u_T) (N : Nat) (ty0 : Nat → FieldType), vwCl[ci]? = some (C, T, N) ∧ (∀ w ∈ u_ws C T N, w ∈ zW) ∧ (∀ k, k < N → parseFieldDescriptor (T k).2.2.1 = some (ty0 k)) ∧ (∀ a, a < N → ∀ b, b < N → a ≠ b → (T a).2.1 ≠ (T b).2.1) ∧ k < N ∧ Cond.fieldLink own index (T k).1 (T k).2.1 (T k).2.2.1 ∈ zW ∧ (T k).2.2.2 = fin ∧ parseFieldDescriptor (T k).2.2.1 = some ty ∧ (T k).1 = C
/-- a virtual call's words -/
def zLv (own : String) (index ci : Nat) (y : MethodName) (bytes : ByteArray) (maxL : Nat) (ret : Option FieldType) (n : Nat) : Prop := ∃ (C : String) (T : u_T) (N : Nat), vwCl[ci]? = some (C, T, N) ∧ GoodIn zW (wsV own index C y (zs y bytes maxL ret)) ∧ (y.cls = C ∧ y.cls ≠ "java/lang/invoke/MethodHandle" ∧ y.cls ≠ "java/lang/invoke/VarHandle" ∧ (parseMethodDescriptor y.desc).map (fun d => d.parameters.length) = some n)
theorem zLv.of {own : String} {index ci : Nat} {y : MethodName} {bytes : ByteArray} {maxL : Nat} {ret : Option FieldType} {n : Nat} {C : String} {T : u_T} {N : Nat} (h0 : vwCl[ci]? = some (C, T, N)) (h1 : Cond.methodLink own index y ∈ zW) (h2 : Cond.instanceMethod y ∈ zW) (h3 : Cond.selects C y y ∈ zW) (h4 : Cond.initialized C ∈ zW) (h5 : Cond.code y bytes maxL ret ∈ zW) (h6 : y.cls = C ∧ y.cls ≠ "java/lang/invoke/MethodHandle" ∧ y.cls ≠ "java/lang/invoke/VarHandle" ∧ (parseMethodDescriptor y.desc).map (fun d => d.parameters.length) = some n) : zLv own index ci y bytes maxL ret n :=
  ⟨C, T, N, h0, fun w hw => by
    rcases List.mem_append.mp (show w ∈ [Cond.methodLink own index y, .instanceMethod y, .selects C y y, .initialized C] ++ zs y bytes maxL ret from hw) with hw | hw
    · rcases List.mem_cons.mp hw with rfl | hw
      · exact zW_good _ h1
      rcases List.mem_cons.mp hw with rfl | hw
      · exact zW_good _ h2
      rcases List.mem_cons.mp hw with rfl | hw
      · exact zW_good _ h3
      rcases List.mem_cons.mp hw with rfl | hw
      · exact zW_good _ h4
      cases hw
    · exact zs_good h5 w hw, h6⟩
/-- a static call's words -/
def zLs (own : String) (index : Nat) (y : MethodName) (bytes : ByteArray) (maxL : Nat) (ret : Option FieldType) (n : Nat) : Prop := GoodIn zW (va_wsS own index y (zs y bytes maxL ret)) ∧ (y.cls ≠ "java/lang/invoke/MethodHandle" ∧ y.cls ≠ "java/lang/invoke/VarHandle" ∧ (parseMethodDescriptor y.desc).map (fun d => d.parameters.length) = some n)
theorem zLs.of {own : String} {index : Nat} {y : MethodName} {bytes : ByteArray} {maxL : Nat} {ret : Option FieldType} {n : Nat} (h1 : Cond.methodLink own index y ∈ zW) (h2 : Cond.static y ∈ zW) (h4 : Cond.initialized y.cls ∈ zW) (h5 : Cond.code y bytes maxL ret ∈ zW) (h6 : y.cls ≠ "java/lang/invoke/MethodHandle" ∧ y.cls ≠ "java/lang/invoke/VarHandle" ∧ (parseMethodDescriptor y.desc).map (fun d => d.parameters.length) = some n) : zLs own index y bytes maxL ret n :=
  ⟨fun w hw => by
    rcases List.mem_append.mp (show w ∈ [Cond.methodLink own index y, .static y, .initialized y.cls] ++ zs y bytes maxL ret from hw) with hw | hw
    · rcases List.mem_cons.mp hw with rfl | hw
      · exact zW_good _ h1
      rcases List.mem_cons.mp hw with rfl | hw
      · exact zW_good _ h2
      rcases List.mem_cons.mp hw with rfl | hw
      · exact zW_good _ h4
      cases hw
    · exact zs_good h5 w hw, h6⟩
section ZR
variable {p : Program} {l : Launch} {e : Env} {R : Room} {s : State} {m : MethodId} {args : Array Value} {below : List Frame} {meth : Method} {c : Code} {H : Heap} {locs : List Loc} {cells slots : Nat} {Q : State → Prop}
variable {D : va_G} {cy : Nat → ClassId} {K : Nat} {ad : Nat → Nat} {g : Nat → va_E} {A : Nat → Prop} {cc : ByteArray} {own : String} {nL pc : Nat} {ls : Array Slot} {rest : List Value}
theorem z_get (C0 : zC p s m args c meth cc nL own D cy A) (hP : zP D K ad g A H) {n ci index k : Nat} {fs : List Value} {v : Value} (hn : n < K) (he : g n = .inr (ci, fs)) (hF : zFd own index ci k) (hv : fs[k]? = some v) (hdg : decode cc pc = .ok (.getfield index, 3))
    (kk : W p l e R s m args below meth c H locs cells slots Q (F0 m (pc + 3) ls (v :: rest))) : W p l e R s m args below meth c H locs cells slots Q (F0 m pc ls (.ref (ad n) :: rest)) := by
  obtain ⟨hx, hb, hml, hown, hts, hK, hA, hlk⟩ := C0
  obtain ⟨Cn, T, N, hc, hin, hk, hl⟩ := hF
  have hq := zw_get (K := K) (ad := ad) (g := g) hn
  rw [he] at hq
  exact va_get hx hb hts hin hown hK hP.1 n hq hc k hk (hts _ hl) (fun _ h => h) hv hdg kk
theorem z_put (C0 : zC p s m args c meth cc nL own D cy A) (hP : zP D K ad g A H) (hS : va_S A s.heap H locs) {n ci index k : Nat} {fs : List Value} {v : Value} {ty : FieldType} (hn : n < K) (he : g n = .inr (ci, fs)) (hF : zFp own index ci k ty false) (hnr : narrow ty v = v) (hfit : fits ty v = true) (hl : k < fs.length) (hdg : decode cc pc = .ok (.putfield index, 3))
    (kk : ∀ (H1 : Heap) (locs1 : List Loc), zP D K ad (va_up g n (.inr (ci, fs.set k v))) A H1 → va_S A s.heap H1 locs1 → W p l e R s m args below meth c H1 locs1 cells slots Q (F0 m (pc + 3) ls rest)) : W p l e R s m args below meth c H locs cells slots Q (F0 m pc ls (v :: .ref (ad n) :: rest)) := by
  obtain ⟨hx, hb, hml, hown, hts, hK, hA, hlk⟩ := C0
  obtain ⟨Cn, T, N, ty0, hc, hin, hty, hnm, hk, hlw, hfin, hd, -⟩ := hF
  have hq := zw_get (K := K) (ad := ad) (g := g) hn
  rw [he] at hq
  refine va_put hx hb hts hin ty0 hty hnm hown hK hP.1 hP.2 hS n hq hc k hk (hts _ hlw) (fun _ h => h) hfin hd hnr hfit hl hdg (fun H1 locs1 h1 h2 h3 => ?_)
  rw [zw_set hn] at h1 h2
  exact kk H1 locs1 ⟨h1, h2⟩ h3
theorem z_putF (C0 : zC p s m args c meth cc nL own D cy A) (hP : zP D K ad g A H) (hS : va_S A s.heap H locs) (hinit : meth.name = "<init>") {n ci index k : Nat} {fs : List Value} {v : Value} {ty : FieldType} (hn : n < K) (he : g n = .inr (ci, fs)) (hF : zFp own index ci k ty true) (hco : vwCl[ci]?.map (·.1) = some own) (hnr : narrow ty v = v) (hfit : fits ty v = true) (hl : k < fs.length) (hdg : decode cc pc = .ok (.putfield index, 3))
    (kk : ∀ (H1 : Heap) (locs1 : List Loc), zP D K ad (va_up g n (.inr (ci, fs.set k v))) A H1 → va_S A s.heap H1 locs1 → W p l e R s m args below meth c H1 locs1 cells slots Q (F0 m (pc + 3) ls rest)) : W p l e R s m args below meth c H locs cells slots Q (F0 m pc ls (v :: .ref (ad n) :: rest)) := by
  obtain ⟨hx, hb, hml, hown, hts, hK, hA, hlk⟩ := C0
  obtain ⟨Cn, T, N, ty0, hc, hin, hty, hnm, hk, hlw, hfin, hd, hCn⟩ := hF
  have hq := zw_get (K := K) (ad := ad) (g := g) hn
  rw [he] at hq
  have hcn : Cn = own := by rw [hc] at hco; exact Option.some.inj hco
  refine va_putF hx hb hts hin ty0 hty hnm hown hK hP.1 hP.2 hS n hq hc k hk (hts _ hlw) (fun _ h => h) hfin hinit (hCn.trans hcn) hd hnr hfit hl hdg (fun H1 locs1 h1 h2 h3 => ?_)
  rw [zw_set hn] at h1 h2
  exact kk H1 locs1 ⟨h1, h2⟩ h3
theorem z_iald (C0 : zC p s m args c meth cc nL own D cy A) (hP : zP D K ad g A H) {n len j : Nat} {fn : Nat → Int32} {i : Int32} (hn : n < K) (he : g n = .inl (cy 1, len, .inl fn)) (hi : zIx i len j) (hdg : decode cc pc = .ok (.iaload, 1))
    (kk : W p l e R s m args below meth c H locs cells slots Q (F0 m (pc + 1) ls (.int (fn j) :: rest))) : W p l e R s m args below meth c H locs cells slots Q (F0 m pc ls (.int i :: .ref (ad n) :: rest)) := by
  obtain ⟨hx, hb, hml, hown, hts, hK, hA, hlk⟩ := C0
  have hq := zw_get (K := K) (ad := ad) (g := g) hn
  rw [he] at hq
  obtain ⟨h1, rfl⟩ := hi
  exact va_iald hx hb hK hP.1 n 1 hq rfl h1 hdg kk
theorem z_cald (C0 : zC p s m args c meth cc nL own D cy A) (hP : zP D K ad g A H) {n len j : Nat} {fn : Nat → Int32} {i : Int32} (hn : n < K) (he : g n = .inl (cy 0, len, .inl fn)) (hi : zIx i len j) (hdg : decode cc pc = .ok (.caload, 1))
    (kk : W p l e R s m args below meth c H locs cells slots Q (F0 m (pc + 1) ls (.int (fn j) :: rest))) : W p l e R s m args below meth c H locs cells slots Q (F0 m pc ls (.int i :: .ref (ad n) :: rest)) := by
  obtain ⟨hx, hb, hml, hown, hts, hK, hA, hlk⟩ := C0
  have hq := zw_get (K := K) (ad := ad) (g := g) hn
  rw [he] at hq
  obtain ⟨h1, rfl⟩ := hi
  exact va_cald hx hb hK hP.1 n 0 hq rfl h1 hdg kk
theorem z_zald (C0 : zC p s m args c meth cc nL own D cy A) (hP : zP D K ad g A H) {n len j : Nat} {fn : Nat → Int32} {i : Int32} (hn : n < K) (he : g n = .inl (cy 2, len, .inl fn)) (hi : zIx i len j) (hdg : decode cc pc = .ok (.baload, 1))
    (kk : W p l e R s m args below meth c H locs cells slots Q (F0 m (pc + 1) ls (.int (fn j) :: rest))) : W p l e R s m args below meth c H locs cells slots Q (F0 m pc ls (.int i :: .ref (ad n) :: rest)) := by
  obtain ⟨hx, hb, hml, hown, hts, hK, hA, hlk⟩ := C0
  have hq := zw_get (K := K) (ad := ad) (g := g) hn
  rw [he] at hq
  obtain ⟨h1, rfl⟩ := hi
  exact va_zald hx hb hK hP.1 n 2 hq rfl h1 hdg kk
theorem z_lald (C0 : zC p s m args c meth cc nL own D cy A) (hP : zP D K ad g A H) {n len j : Nat} {fn : Nat → Int64} {i : Int32} (hn : n < K) (he : g n = .inl (cy 5, len, .inr (.inl fn))) (hi : zIx i len j) (hdg : decode cc pc = .ok (.laload, 1))
    (kk : W p l e R s m args below meth c H locs cells slots Q (F0 m (pc + 1) ls (.long (fn j) :: rest))) : W p l e R s m args below meth c H locs cells slots Q (F0 m pc ls (.int i :: .ref (ad n) :: rest)) := by
  obtain ⟨hx, hb, hml, hown, hts, hK, hA, hlk⟩ := C0
  have hq := zw_get (K := K) (ad := ad) (g := g) hn
  rw [he] at hq
  obtain ⟨h1, rfl⟩ := hi
  exact va_lald hx hb hK hP.1 n 5 hq rfl h1 hdg kk
theorem z_aald (C0 : zC p s m args c meth cc nL own D cy A) (hP : zP D K ad g A H) {n len j t0 : Nat} {E : String} {fn : Nat → Option Nat} {i : Int32} {v : Value} (hn : n < K) (he : g n = .inl (cy t0, len, .inr (.inr (.inr (.inr fn))))) (ht : (zT cy)[t0]? = some (cy t0, .object E)) (hi : zIx i len j) (hv : va_rf (fn j) = v) (hdg : decode cc pc = .ok (.aaload, 1))
    (kk : W p l e R s m args below meth c H locs cells slots Q (F0 m (pc + 1) ls (v :: rest))) : W p l e R s m args below meth c H locs cells slots Q (F0 m pc ls (.int i :: .ref (ad n) :: rest)) := by
  obtain ⟨hx, hb, hml, hown, hts, hK, hA, hlk⟩ := C0
  have hq := zw_get (K := K) (ad := ad) (g := g) hn
  rw [he] at hq
  obtain ⟨h1, rfl⟩ := hi
  subst hv
  exact va_aldq hx hb hK hP.1 n t0 hq ht h1 hdg kk
theorem z_alen (C0 : zC p s m args c meth cc nL own D cy A) (hP : zP D K ad g A H) {n t0 : Nat} {x : vp_A} {ty : FieldType} {v : Int32} (hn : n < K) (he : g n = .inl (cy t0, x)) (ht : (zT cy)[t0]? = some (cy t0, ty)) (hv : Int32.ofNat x.1 = v) (hdg : decode cc pc = .ok (.arraylength, 1))
    (kk : W p l e R s m args below meth c H locs cells slots Q (F0 m (pc + 1) ls (.int v :: rest))) : W p l e R s m args below meth c H locs cells slots Q (F0 m pc ls (.ref (ad n) :: rest)) := by
  obtain ⟨hx, hb, hml, hown, hts, hK, hA, hlk⟩ := C0
  have hq := zw_get (K := K) (ad := ad) (g := g) hn
  rw [he] at hq
  exact va_alen hx hb hK hP.1 n t0 hq ht hv hdg kk
theorem z_iast (C0 : zC p s m args c meth cc nL own D cy A) (hP : zP D K ad g A H) (hS : va_S A s.heap H locs) {n len j : Nat} {fn : Nat → Int32} {i x : Int32} (hn : n < K) (he : g n = .inl (cy 1, len, .inl fn)) (hi : zIx i len j) (hdg : decode cc pc = .ok (.iastore, 1))
    (kk : ∀ (H1 : Heap) (locs1 : List Loc), zP D K ad (va_up g n (.inl (cy 1, len, .inl (upd fn j x)))) A H1 → va_S A s.heap H1 locs1 → W p l e R s m args below meth c H1 locs1 cells slots Q (F0 m (pc + 1) ls rest)) : W p l e R s m args below meth c H locs cells slots Q (F0 m pc ls (.int x :: .int i :: .ref (ad n) :: rest)) := by
  obtain ⟨hx, hb, hml, hown, hts, hK, hA, hlk⟩ := C0
  have hq := zw_get (K := K) (ad := ad) (g := g) hn
  rw [he] at hq
  obtain ⟨h1, rfl⟩ := hi
  refine va_iast hx hb hK hP.1 hP.2 hS n 1 hq rfl h1 hdg (fun H1 locs1 h1 h2 h3 => ?_)
  rw [zw_set hn] at h1 h2
  exact kk H1 locs1 ⟨h1, h2⟩ h3
theorem z_cast (C0 : zC p s m args c meth cc nL own D cy A) (hP : zP D K ad g A H) (hS : va_S A s.heap H locs) {n len j : Nat} {fn : Nat → Int32} {i x : Int32} (hn : n < K) (he : g n = .inl (cy 0, len, .inl fn)) (hi : zIx i len j) (hx2 : vp_nar .char x = x) (hdg : decode cc pc = .ok (.castore, 1))
    (kk : ∀ (H1 : Heap) (locs1 : List Loc), zP D K ad (va_up g n (.inl (cy 0, len, .inl (upd fn j x)))) A H1 → va_S A s.heap H1 locs1 → W p l e R s m args below meth c H1 locs1 cells slots Q (F0 m (pc + 1) ls rest)) : W p l e R s m args below meth c H locs cells slots Q (F0 m pc ls (.int x :: .int i :: .ref (ad n) :: rest)) := by
  obtain ⟨hx, hb, hml, hown, hts, hK, hA, hlk⟩ := C0
  have hq := zw_get (K := K) (ad := ad) (g := g) hn
  rw [he] at hq
  obtain ⟨h1, rfl⟩ := hi
  refine va_cast hx hb hK hP.1 hP.2 hS n 0 hq rfl h1 hdg (fun H1 locs1 h1 h2 h3 => ?_)
  rw [hx2, zw_set hn] at h1 h2
  exact kk H1 locs1 ⟨h1, h2⟩ h3
theorem z_zast (C0 : zC p s m args c meth cc nL own D cy A) (hP : zP D K ad g A H) (hS : va_S A s.heap H locs) {n len j : Nat} {fn : Nat → Int32} {i x : Int32} (hn : n < K) (he : g n = .inl (cy 2, len, .inl fn)) (hi : zIx i len j) (hx2 : vp_nar .boolean x = x) (hdg : decode cc pc = .ok (.bastore, 1))
    (kk : ∀ (H1 : Heap) (locs1 : List Loc), zP D K ad (va_up g n (.inl (cy 2, len, .inl (upd fn j x)))) A H1 → va_S A s.heap H1 locs1 → W p l e R s m args below meth c H1 locs1 cells slots Q (F0 m (pc + 1) ls rest)) : W p l e R s m args below meth c H locs cells slots Q (F0 m pc ls (.int x :: .int i :: .ref (ad n) :: rest)) := by
  obtain ⟨hx, hb, hml, hown, hts, hK, hA, hlk⟩ := C0
  have hq := zw_get (K := K) (ad := ad) (g := g) hn
  rw [he] at hq
  obtain ⟨h1, rfl⟩ := hi
  refine va_zast hx hb hK hP.1 hP.2 hS n 2 hq rfl h1 hdg (fun H1 locs1 h1 h2 h3 => ?_)
  rw [hx2, zw_set hn] at h1 h2
  exact kk H1 locs1 ⟨h1, h2⟩ h3
theorem z_last (C0 : zC p s m args c meth cc nL own D cy A) (hP : zP D K ad g A H) (hS : va_S A s.heap H locs) {n len j : Nat} {fn : Nat → Int64} {i : Int32} {x : Int64} (hn : n < K) (he : g n = .inl (cy 5, len, .inr (.inl fn))) (hi : zIx i len j) (hdg : decode cc pc = .ok (.lastore, 1))
    (kk : ∀ (H1 : Heap) (locs1 : List Loc), zP D K ad (va_up g n (.inl (cy 5, len, .inr (.inl (vp_updL fn j x))))) A H1 → va_S A s.heap H1 locs1 → W p l e R s m args below meth c H1 locs1 cells slots Q (F0 m (pc + 1) ls rest)) : W p l e R s m args below meth c H locs cells slots Q (F0 m pc ls (.long x :: .int i :: .ref (ad n) :: rest)) := by
  obtain ⟨hx, hb, hml, hown, hts, hK, hA, hlk⟩ := C0
  have hq := zw_get (K := K) (ad := ad) (g := g) hn
  rw [he] at hq
  obtain ⟨h1, rfl⟩ := hi
  refine va_last hx hb hK hP.1 hP.2 hS n 5 hq rfl h1 hdg (fun H1 locs1 h1 h2 h3 => ?_)
  rw [zw_set hn] at h1 h2
  exact kk H1 locs1 ⟨h1, h2⟩ h3
theorem z_aast (C0 : zC p s m args c meth cc nL own D cy A) (hP : zP D K ad g A H) (hS : va_S A s.heap H locs) {n len j t0 b ci : Nat} {fn : Nat → Option Nat} {r : vw_C} {vs : List Value} {i : Int32} (hn : n < K) (he : g n = .inl (cy t0, len, .inr (.inr (.inr (.inr fn))))) (hc : vwCl[ci]? = some r) (ht : (zT cy)[t0]? = some (cy t0, .object r.1)) (hbK : b < K) (hbe : g b = .inr (ci, vs)) (hi : zIx i len j) (hdg : decode cc pc = .ok (.aastore, 1))
    (kk : ∀ (H1 : Heap) (locs1 : List Loc), zP D K ad (va_up g n (.inl (cy t0, len, .inr (.inr (.inr (.inr (va_up fn j (some (ad b))))))))) A H1 → va_S A s.heap H1 locs1 → W p l e R s m args below meth c H1 locs1 cells slots Q (F0 m (pc + 1) ls rest)) : W p l e R s m args below meth c H locs cells slots Q (F0 m pc ls (.ref (ad b) :: .int i :: .ref (ad n) :: rest)) := by
  obtain ⟨hx, hb, hml, hown, hts, hK, hA, hlk⟩ := C0
  have hq := zw_get (K := K) (ad := ad) (g := g) hn
  rw [he] at hq
  have hq2 := zw_get (K := K) (ad := ad) (g := g) hbK
  rw [hbe] at hq2
  obtain ⟨h1, rfl⟩ := hi
  refine va_astq hx hb hK hP.1 hP.2 hS n t0 b ci hq ht hq2 hc h1 hdg (fun H1 locs1 h1 h2 h3 => ?_)
  rw [zw_set hn] at h1 h2
  exact kk H1 locs1 ⟨h1, h2⟩ h3
end ZR
end
section
/-! ===== calls, entries, ends ===== -/
theorem zIn_blind {D : va_G} {cy : Nat → ClassId} {K : Nat} {ad : Nat → Nat} {g : Nat → va_E} {sz : Nat} {av : List Value} : FrameBlind (va_Pc av (zIn D cy K ad g sz)) := fun a U g' mk q => by
  obtain ⟨q0, q1, qP, qK, qD⟩ := q
  exact ⟨q0, q1, qP, va_K.moved (u := U) (U := U.calling g' mk a) (Vm.Alike.refl U.vm) qK, qD⟩
section ZQ
variable {p : Program} {l : Launch} {e : Env} {R : Room} {s : State} {m : MethodId} {args : Array Value} {below : List Frame} {meth : Method} {c : Code} {H : Heap} {locs : List Loc} {cells slots : Nat} {Q : State → Prop}
variable {D : va_G} {cy : Nat → ClassId} {K : Nat} {ad : Nat → Nat} {g : Nat → va_E} {A : Nat → Prop} {cc : ByteArray} {own : String} {nL pc : Nat} {ls : Array Slot} {rest : List Value}
theorem zIn_at (C0 : zC p s m args c meth cc nL own D cy A) (hP : zP D K ad g A H) {av : List Value} : ∀ U : State, U.heap = H → s.WarmedH U.vm → va_Pc av (zIn D cy K ad g H.size) av.toArray U := by
  obtain ⟨hx, hb, hml, hown, hts, hK, hA, hlk⟩ := C0
  intro U hU hW
  exact ⟨rfl, by rw [hU], by rw [hU]; exact hP.1, va_K.moved hW.alike hK, zw_D hP.2 (fun _ _ _ => trivial)⟩
theorem zA_in (hA : ∀ q, s.heap.size ≤ q → A q) (hP : zP D K ad g A H) (hS : va_S A s.heap H locs) : ∀ q, zA K ad H.size q → A q := by
  intro q h
  rcases h with ⟨n, hn, rfl⟩ | h
  · exact hP.A hn
  · exact hA q (Nat.le_trans hS.1 h)
theorem zP_out (hA : ∀ q, zA K ad H.size q → A q) {t : State} {H1 : Heap} {g' : Nat → va_E} (ht : t.heap = H1) (h : zOut D cy K ad H.size g' t) : zP D K ad g' A H1 := by
  obtain ⟨h1, -, h2⟩ := h
  rw [ht] at h1
  exact ⟨h1, zw_D h2 (fun n _ q => hA _ q)⟩
/-- run a virtual call -/
theorem z_runV (C0 : zC p s m args c meth cc nL own D cy A) (hP : zP D K ad g A H) (hsz : ls.size = nL) {st0 As : List Value} {y : MethodName} {bytes : ByteArray} {maxL index ci b k mc ms : Nat} {ret : Option FieldType} {fs : List Value} {rm : Room} {Qc : Array Value → State → Outcome → State → Prop} {free : Addr → Prop}
    (hM : Met l y (zs y bytes maxL ret) rm (va_Pc (.ref (ad b) :: As) (zIn D cy K ad g H.size)) Qc mc ms free) (hL : zLv own index ci y bytes maxL ret k) (hn : b < K) (he : g b = .inr (ci, fs)) (hlen : As.length = k) (hst : st0 = As.reverse ++ .ref (ad b) :: rest) (hrest : (rest.map fun v => v.category).sum ≤ 8) (hrc : rm.cells = mc) (hrs : rm.slots = ms) (hR : rm.frames + 1 ≤ R.frames ∧ 8 + (maxL + 11) + rm.locals ≤ R.locals) (hf : cells + mc ≤ R.cells ∧ slots + ms ≤ R.slots) (hdg : decode cc pc = .ok (.invokevirtual index, 3)) :
    va_Run p l e R s m args below meth c H locs cells slots mc ms (F0 m pc ls st0) rest (Qc (Value.ref (ad b) :: As).toArray) free := by
  obtain ⟨Cn, T, N, hc, hG, hd⟩ := hL
  have C1 := C0
  obtain ⟨hx, hb, hml, hown, hts, hK, hA, hlk⟩ := C0
  have hq := zw_get (K := K) (ad := ad) (g := g) hn
  rw [he] at hq
  exact va_runV (As := As) (rest := rest) (b := ad b) ⟨hx, hb, hml, hown, hts⟩ hM (cwV k hts hG rfl hrc hrs hd hR) ⟨zIn_blind, va_recv hK hP.1 (ci := ci) (q0 := b) hc hq, zIn_at C1 hP⟩ rfl hlen hsz hst (lv_room hrest) hdg hf
/-- run a static call -/
theorem z_runS (C0 : zC p s m args c meth cc nL own D cy A) (hP : zP D K ad g A H) (hsz : ls.size = nL) {st0 As : List Value} {y : MethodName} {bytes : ByteArray} {maxL index k mc ms : Nat} {ret : Option FieldType} {rm : Room} {Qc : Array Value → State → Outcome → State → Prop} {free : Addr → Prop}
    (hM : Met l y (zs y bytes maxL ret) rm (va_Pc As (zIn D cy K ad g H.size)) Qc mc ms free) (hL : zLs own index y bytes maxL ret k) (hlen : As.length = k) (hst : st0 = As.reverse ++ rest) (hrest : (rest.map fun v => v.category).sum ≤ 8) (hrc : rm.cells = mc) (hrs : rm.slots = ms) (hR : rm.frames + 1 ≤ R.frames ∧ 8 + (maxL + 11) + rm.locals ≤ R.locals) (hf : cells + mc ≤ R.cells ∧ slots + ms ≤ R.slots) (hdg : decode cc pc = .ok (.invokestatic index, 3)) :
    va_Run p l e R s m args below meth c H locs cells slots mc ms (F0 m pc ls st0) rest (Qc As.toArray) free := by
  have C1 := C0
  obtain ⟨hx, hb, hml, hown, hts, hK, hA, hlk⟩ := C0
  exact va_runS (As := As) (rest := rest) ⟨hx, hb, hml, hown, hts⟩ hM (va_cwS k hts hL.1 rfl hrc hrs hL.2 hR) ⟨zIn_blind, zIn_at C1 hP⟩ rfl hlen hsz hst (lv_room hrest) hdg hf
theorem z_calli (C0 : zC p s m args c meth cc nL own D cy A) (hP : zP D K ad g A H) (hS : va_S A s.heap H locs) {st0 : List Value} {mc ms : Nat} {av : Array Value} {post : Int32 → (Nat → va_E) → Prop}
    (hr : va_Run p l e R s m args below meth c H locs cells slots mc ms (F0 m pc ls st0) rest (va_Qi post (zOut D cy K ad H.size) (zA K ad H.size) av) (zA K ad H.size))
    (kk : ∀ (r : Int32) (g' : Nat → va_E) (H1 : Heap) (locs1 : List Loc), zP D K ad g' A H1 → va_S A s.heap H1 locs1 → post r g' → W p l e R s m args below meth c H1 locs1 (cells + mc) (slots + ms) Q (F0 m (pc + 3) ls (.int r :: rest))) : W p l e R s m args below meth c H locs cells slots Q (F0 m pc ls st0) := by
  have hA' := zA_in C0.2.2.2.2.2.2.1 hP hS
  exact va_calli hr hS (fun q _ h => hA' q h) hA' (fun r u t H1 locs1 ht hvm hp ho _ _ hS1 => kk r u H1 locs1 (zP_out hA' ht ho) hS1 hp)
theorem z_calll (C0 : zC p s m args c meth cc nL own D cy A) (hP : zP D K ad g A H) (hS : va_S A s.heap H locs) {st0 : List Value} {mc ms : Nat} {av : Array Value} {post : Int64 → (Nat → va_E) → Prop}
    (hr : va_Run p l e R s m args below meth c H locs cells slots mc ms (F0 m pc ls st0) rest (va_Ql post (zOut D cy K ad H.size) (zA K ad H.size) av) (zA K ad H.size))
    (kk : ∀ (r : Int64) (g' : Nat → va_E) (H1 : Heap) (locs1 : List Loc), zP D K ad g' A H1 → va_S A s.heap H1 locs1 → post r g' → W p l e R s m args below meth c H1 locs1 (cells + mc) (slots + ms) Q (F0 m (pc + 3) ls (.long r :: rest))) : W p l e R s m args below meth c H locs cells slots Q (F0 m pc ls st0) := by
  have hA' := zA_in C0.2.2.2.2.2.2.1 hP hS
  exact va_calll hr hS (fun q _ h => hA' q h) hA' (fun r u t H1 locs1 ht hvm hp ho _ _ hS1 => kk r u H1 locs1 (zP_out hA' ht ho) hS1 hp)
theorem z_calld (C0 : zC p s m args c meth cc nL own D cy A) (hP : zP D K ad g A H) (hS : va_S A s.heap H locs) {st0 : List Value} {mc ms : Nat} {av : Array Value} {post : UInt64 → (Nat → va_E) → Prop}
    (hr : va_Run p l e R s m args below meth c H locs cells slots mc ms (F0 m pc ls st0) rest (va_Qd post (zOut D cy K ad H.size) (zA K ad H.size) av) (zA K ad H.size))
    (kk : ∀ (r : UInt64) (g' : Nat → va_E) (H1 : Heap) (locs1 : List Loc), zP D K ad g' A H1 → va_S A s.heap H1 locs1 → post r g' → W p l e R s m args below meth c H1 locs1 (cells + mc) (slots + ms) Q (F0 m (pc + 3) ls (.double r :: rest))) : W p l e R s m args below meth c H locs cells slots Q (F0 m pc ls st0) := by
  have hA' := zA_in C0.2.2.2.2.2.2.1 hP hS
  exact va_calld hr hS (fun q _ h => hA' q h) hA' (fun r u t H1 locs1 ht hvm hp ho _ _ hS1 => kk r u H1 locs1 (zP_out hA' ht ho) hS1 hp)
theorem z_callv (C0 : zC p s m args c meth cc nL own D cy A) (hP : zP D K ad g A H) (hS : va_S A s.heap H locs) {st0 : List Value} {mc ms : Nat} {av : Array Value} {post : (Nat → va_E) → Prop}
    (hr : va_Run p l e R s m args below meth c H locs cells slots mc ms (F0 m pc ls st0) rest (va_Qv post (zOut D cy K ad H.size) (zA K ad H.size) av) (zA K ad H.size))
    (kk : ∀ (g' : Nat → va_E) (H1 : Heap) (locs1 : List Loc), zP D K ad g' A H1 → va_S A s.heap H1 locs1 → post g' → W p l e R s m args below meth c H1 locs1 (cells + mc) (slots + ms) Q (F0 m (pc + 3) ls rest)) : W p l e R s m args below meth c H locs cells slots Q (F0 m pc ls st0) := by
  have hA' := zA_in C0.2.2.2.2.2.2.1 hP hS
  exact va_callv hr hS (fun q _ h => hA' q h) hA' (fun u t H1 locs1 ht hvm hp ho _ _ hS1 => kk u H1 locs1 (zP_out hA' ht ho) hS1 hp)
end ZQ
section ZE
variable {l : Launch} {D : va_G} {cy : Nat → ClassId} {K : Nat} {ad : Nat → Nat} {g : Nat → va_E}
/-- a method's contract, by the walk of its body -/
theorem z_met {y : MethodName} {bytes : ByteArray} {maxL : Nat} {ret : Option FieldType} {rm : Room} {av : List Value} {sz mc ms : Nat} {Qc : Array Value → State → Outcome → State → Prop} {free : Addr → Prop} (hy : plainName y.cls = true) (hlen : (lg_sl av).length ≤ maxL)
    (body : ∀ (p : Program) (e : Env) (s : State) (m : MethodId) (below : List Frame) (meth : Method) (c : Code) (ls : Array Slot), sz = s.heap.size → lv_has ls maxL (lv_args 0 av) → zC p s m av.toArray c meth bytes maxL y.cls D cy (zA K ad s.heap.size) → meth.sig.returnType = ret → meth.name = y.name → zP D K ad g (zA K ad s.heap.size) s.heap → va_S (zA K ad s.heap.size) s.heap s.heap [] →
      W p l e rm s m av.toArray below meth c s.heap [] 0 0 (MQ below Qc av.toArray s mc ms free) (F0 m 0 ls [])) : Met l y (zs y bytes maxL ret) rm (va_Pc av (zIn D cy K ad g sz)) Qc mc ms free := by
  refine Met.ofW (cc := bytes) (maxL := maxL) (ret := ret) hy rfl ?_
  intro p e s m args below meth c s₁ B hml hv
  obtain ⟨rfl, hsz, hP, hK, hD0⟩ := hv
  have hts := atoms_spec (ws := zs y bytes maxL ret) B.pre
  have hown : s.vm.findClass y.cls = some m.cls := findClass_of_methodNamed B.named
  have hl := lv_entry av (n := maxL) hlen
  rw [lg_entry_eq]
  have hD : va_D (zA K ad s.heap.size) (zw K ad g) := zw_D hD0 (fun n hn _ => Or.inl ⟨n, hn, rfl⟩)
  exact body p e s m below meth c _ hsz.symm hl ⟨B.exec, B.bytes, hml, hown, fun w h => hts w (List.mem_cons_of_mem _ h), hK, fun q h => Or.inr h, B.notSynchronized⟩ B.returns (name_of_methodNamed B.named B.method).1 ⟨hP, hD⟩ va_S.rf
end ZE
section ZN
variable {p : Program} {l : Launch} {e : Env} {R : Room} {s : State} {m : MethodId} {args : Array Value} {below : List Frame} {meth : Method} {c : Code} {H : Heap} {locs : List Loc} {cells slots : Nat} {Q : State → Prop}
variable {D : va_G} {cy : Nat → ClassId} {K : Nat} {ad : Nat → Nat} {g : Nat → va_E} {A : Nat → Prop} {cc : ByteArray} {own : String} {nL pc : Nat} {ls : Array Slot} {rest : List Value}
theorem zOut_at (C0 : zC p s m args c meth cc nL own D cy (zA K ad s.heap.size)) (hP : zP D K ad g (zA K ad s.heap.size) H) (t : State) (ht : t.heap = H) (hW : s.WarmedH t.vm) : zOut D cy K ad s.heap.size g t :=
  ⟨by rw [ht]; exact hP.1, va_K.moved hW.alike C0.2.2.2.2.2.1, hP.2⟩
theorem z_iret (C0 : zC p s m args c meth cc nL own D cy (zA K ad s.heap.size)) (hP : zP D K ad g (zA K ad s.heap.size) H) (hS : va_S (zA K ad s.heap.size) s.heap H locs) {v : Int32} {post : Int32 → (Nat → va_E) → Prop} (hr : meth.sig.returnType = some .int) (hp : post v g) (hdg : decode cc pc = .ok (.ireturn, 1)) :
    W p l e R s m args below meth c H locs cells slots (MQ below (va_Qi post (zOut D cy K ad s.heap.size) (zA K ad s.heap.size)) args s cells slots (zA K ad s.heap.size)) (F0 m pc ls [.int v]) :=
  W.iret (v := v) C0.1 C0.2.1 hr (fun t ht hW => ⟨⟨v, g, rfl, hp, zOut_at C0 hP t ht hW⟩, hS.F ht⟩) hS.2.2 hdg C0.2.2.2.2.2.2.2
theorem z_zret (C0 : zC p s m args c meth cc nL own D cy (zA K ad s.heap.size)) (hP : zP D K ad g (zA K ad s.heap.size) H) (hS : va_S (zA K ad s.heap.size) s.heap H locs) {v : Int32} {post : Int32 → (Nat → va_E) → Prop} (hr : meth.sig.returnType = some .boolean) (hn : narrow .boolean (.int v) = .int v) (hp : post v g) (hdg : decode cc pc = .ok (.ireturn, 1)) :
    W p l e R s m args below meth c H locs cells slots (MQ below (va_Qi post (zOut D cy K ad s.heap.size) (zA K ad s.heap.size)) args s cells slots (zA K ad s.heap.size)) (F0 m pc ls [.int v]) :=
  W.zret (v := v) C0.1 C0.2.1 hr hn (fun t ht hW => ⟨⟨v, g, rfl, hp, zOut_at C0 hP t ht hW⟩, hS.F ht⟩) hS.2.2 hdg C0.2.2.2.2.2.2.2
theorem z_lret (C0 : zC p s m args c meth cc nL own D cy (zA K ad s.heap.size)) (hP : zP D K ad g (zA K ad s.heap.size) H) (hS : va_S (zA K ad s.heap.size) s.heap H locs) {v : Int64} {post : Int64 → (Nat → va_E) → Prop} (hr : meth.sig.returnType = some .long) (hp : post v g) (hdg : decode cc pc = .ok (.lreturn, 1)) :
    W p l e R s m args below meth c H locs cells slots (MQ below (va_Ql post (zOut D cy K ad s.heap.size) (zA K ad s.heap.size)) args s cells slots (zA K ad s.heap.size)) (F0 m pc ls [.long v]) :=
  W.lret (v := v) C0.1 C0.2.1 hr (fun t ht hW => ⟨⟨v, g, rfl, hp, zOut_at C0 hP t ht hW⟩, hS.F ht⟩) hS.2.2 hdg C0.2.2.2.2.2.2.2
theorem z_dret (C0 : zC p s m args c meth cc nL own D cy (zA K ad s.heap.size)) (hP : zP D K ad g (zA K ad s.heap.size) H) (hS : va_S (zA K ad s.heap.size) s.heap H locs) {v : UInt64} {post : UInt64 → (Nat → va_E) → Prop} (hr : meth.sig.returnType = some .double) (hp : post v g) (hdg : decode cc pc = .ok (.dreturn, 1)) :
    W p l e R s m args below meth c H locs cells slots (MQ below (va_Qd post (zOut D cy K ad s.heap.size) (zA K ad s.heap.size)) args s cells slots (zA K ad s.heap.size)) (F0 m pc ls [.double v]) :=
  W.dret (v := v) C0.1 C0.2.1 hr (fun t ht hW => ⟨⟨v, g, rfl, hp, zOut_at C0 hP t ht hW⟩, hS.F ht⟩) hS.2.2 hdg C0.2.2.2.2.2.2.2
theorem z_vret (C0 : zC p s m args c meth cc nL own D cy (zA K ad s.heap.size)) (hP : zP D K ad g (zA K ad s.heap.size) H) (hS : va_S (zA K ad s.heap.size) s.heap H locs) {post : (Nat → va_E) → Prop} (hr : meth.sig.returnType = none) (hp : post g) (hdg : decode cc pc = .ok (.return_, 1)) :
    W p l e R s m args below meth c H locs cells slots (MQ below (va_Qv post (zOut D cy K ad s.heap.size) (zA K ad s.heap.size)) args s cells slots (zA K ad s.heap.size)) (F0 m pc ls []) :=
  W.vret C0.1 C0.2.1 hr (fun t ht hW => ⟨⟨g, rfl, hp, zOut_at C0 hP t ht hW⟩, hS.F ht⟩) hS.2.2 hdg C0.2.2.2.2.2.2.2
end ZN
end
section
theorem fd_X0_9 : zFd RX0 9 0 0 := ⟨RX0, TX0, 6, rfl, ziX0, by decide, q89⟩
theorem fp_X0_9 : zFp RX0 9 0 0 (.array .int) true := ⟨RX0, TX0, 6, tyX0, rfl, ziX0, tyX0_ok, nmX0, by decide, q89, rfl, by decide +kernel, rfl⟩
theorem fd_X1_80 : zFd RX1 80 0 0 := ⟨RX0, TX0, 6, rfl, ziX0, by decide, q90⟩
theorem fp_X1_80 : zFp RX1 80 0 0 (.array .int) true := ⟨RX0, TX0, 6, tyX0, rfl, ziX0, tyX0_ok, nmX0, by decide, q90, rfl, by decide +kernel, rfl⟩
theorem fd_X4_163 : zFd RX4 163 0 0 := ⟨RX0, TX0, 6, rfl, ziX0, by decide, q91⟩
theorem fp_X4_163 : zFp RX4 163 0 0 (.array .int) true := ⟨RX0, TX0, 6, tyX0, rfl, ziX0, tyX0_ok, nmX0, by decide, q91, rfl, by decide +kernel, rfl⟩
theorem fd_X0_15 : zFd RX0 15 0 1 := ⟨RX0, TX0, 6, rfl, ziX0, by decide, q92⟩
theorem fp_X0_15 : zFp RX0 15 0 1 (.array .int) true := ⟨RX0, TX0, 6, tyX0, rfl, ziX0, tyX0_ok, nmX0, by decide, q92, rfl, by decide +kernel, rfl⟩
theorem fd_X4_166 : zFd RX4 166 0 1 := ⟨RX0, TX0, 6, rfl, ziX0, by decide, q93⟩
theorem fp_X4_166 : zFp RX4 166 0 1 (.array .int) true := ⟨RX0, TX0, 6, tyX0, rfl, ziX0, tyX0_ok, nmX0, by decide, q93, rfl, by decide +kernel, rfl⟩
theorem fd_X0_18 : zFd RX0 18 0 2 := ⟨RX0, TX0, 6, rfl, ziX0, by decide, q94⟩
theorem fp_X0_18 : zFp RX0 18 0 2 (.array .int) true := ⟨RX0, TX0, 6, tyX0, rfl, ziX0, tyX0_ok, nmX0, by decide, q94, rfl, by decide +kernel, rfl⟩
theorem fd_X4_186 : zFd RX4 186 0 2 := ⟨RX0, TX0, 6, rfl, ziX0, by decide, q95⟩
theorem fp_X4_186 : zFp RX4 186 0 2 (.array .int) true := ⟨RX0, TX0, 6, tyX0, rfl, ziX0, tyX0_ok, nmX0, by decide, q95, rfl, by decide +kernel, rfl⟩
theorem fd_X0_21 : zFd RX0 21 0 3 := ⟨RX0, TX0, 6, rfl, ziX0, by decide, q96⟩
theorem fp_X0_21 : zFp RX0 21 0 3 .int false := ⟨RX0, TX0, 6, tyX0, rfl, ziX0, tyX0_ok, nmX0, by decide, q96, rfl, by decide +kernel, rfl⟩
theorem fd_X4_148 : zFd RX4 148 0 3 := ⟨RX0, TX0, 6, rfl, ziX0, by decide, q97⟩
theorem fp_X4_148 : zFp RX4 148 0 3 .int false := ⟨RX0, TX0, 6, tyX0, rfl, ziX0, tyX0_ok, nmX0, by decide, q97, rfl, by decide +kernel, rfl⟩
theorem fd_X0_25 : zFd RX0 25 0 4 := ⟨RX0, TX0, 6, rfl, ziX0, by decide, q98⟩
theorem fp_X0_25 : zFp RX0 25 0 4 .int false := ⟨RX0, TX0, 6, tyX0, rfl, ziX0, tyX0_ok, nmX0, by decide, q98, rfl, by decide +kernel, rfl⟩
theorem fd_X4_96 : zFd RX4 96 0 4 := ⟨RX0, TX0, 6, rfl, ziX0, by decide, q99⟩
theorem fp_X4_96 : zFp RX4 96 0 4 .int false := ⟨RX0, TX0, 6, tyX0, rfl, ziX0, tyX0_ok, nmX0, by decide, q99, rfl, by decide +kernel, rfl⟩
theorem fd_X1_91 : zFd RX1 91 0 4 := ⟨RX0, TX0, 6, rfl, ziX0, by decide, q100⟩
theorem fp_X1_91 : zFp RX1 91 0 4 .int false := ⟨RX0, TX0, 6, tyX0, rfl, ziX0, tyX0_ok, nmX0, by decide, q100, rfl, by decide +kernel, rfl⟩
theorem fd_X0_28 : zFd RX0 28 0 5 := ⟨RX0, TX0, 6, rfl, ziX0, by decide, q101⟩
theorem fp_X0_28 : zFp RX0 28 0 5 .int false := ⟨RX0, TX0, 6, tyX0, rfl, ziX0, tyX0_ok, nmX0, by decide, q101, rfl, by decide +kernel, rfl⟩
theorem fd_X1_84 : zFd RX1 84 0 5 := ⟨RX0, TX0, 6, rfl, ziX0, by decide, q102⟩
theorem fp_X1_84 : zFp RX1 84 0 5 .int false := ⟨RX0, TX0, 6, tyX0, rfl, ziX0, tyX0_ok, nmX0, by decide, q102, rfl, by decide +kernel, rfl⟩
theorem fd_X4_158 : zFd RX4 158 0 5 := ⟨RX0, TX0, 6, rfl, ziX0, by decide, q103⟩
theorem fp_X4_158 : zFp RX4 158 0 5 .int false := ⟨RX0, TX0, 6, tyX0, rfl, ziX0, tyX0_ok, nmX0, by decide, q103, rfl, by decide +kernel, rfl⟩
theorem fd_X1_11 : zFd RX1 11 1 0 := ⟨RX1, TX1, 7, rfl, ziX1, by decide, q118⟩
theorem fp_X1_11 : zFp RX1 11 1 0 (.array (.object "HerdCords$Cord")) true := ⟨RX1, TX1, 7, tyX1, rfl, ziX1, tyX1_ok, nmX1, by decide, q118, rfl, by decide +kernel, rfl⟩
theorem fd_X4_279 : zFd RX4 279 1 0 := ⟨RX1, TX1, 7, rfl, ziX1, by decide, q119⟩
theorem fp_X4_279 : zFp RX4 279 1 0 (.array (.object "HerdCords$Cord")) true := ⟨RX1, TX1, 7, tyX1, rfl, ziX1, tyX1_ok, nmX1, by decide, q119, rfl, by decide +kernel, rfl⟩
theorem fd_X1_17 : zFd RX1 17 1 1 := ⟨RX1, TX1, 7, rfl, ziX1, by decide, q120⟩
theorem fp_X1_17 : zFp RX1 17 1 1 .int false := ⟨RX1, TX1, 7, tyX1, rfl, ziX1, tyX1_ok, nmX1, by decide, q120, rfl, by decide +kernel, rfl⟩
theorem fd_X4_101 : zFd RX4 101 1 1 := ⟨RX1, TX1, 7, rfl, ziX1, by decide, q121⟩
theorem fp_X4_101 : zFp RX4 101 1 1 .int false := ⟨RX1, TX1, 7, tyX1, rfl, ziX1, tyX1_ok, nmX1, by decide, q121, rfl, by decide +kernel, rfl⟩
theorem fd_X1_21 : zFd RX1 21 1 2 := ⟨RX1, TX1, 7, rfl, ziX1, by decide, q122⟩
theorem fp_X1_21 : zFp RX1 21 1 2 .int false := ⟨RX1, TX1, 7, tyX1, rfl, ziX1, tyX1_ok, nmX1, by decide, q122, rfl, by decide +kernel, rfl⟩
theorem fd_X4_190 : zFd RX4 190 1 2 := ⟨RX1, TX1, 7, rfl, ziX1, by decide, q123⟩
theorem fp_X4_190 : zFp RX4 190 1 2 .int false := ⟨RX1, TX1, 7, tyX1, rfl, ziX1, tyX1_ok, nmX1, by decide, q123, rfl, by decide +kernel, rfl⟩
theorem fd_X1_24 : zFd RX1 24 1 3 := ⟨RX1, TX1, 7, rfl, ziX1, by decide, q124⟩
theorem fp_X1_24 : zFp RX1 24 1 3 .int false := ⟨RX1, TX1, 7, tyX1, rfl, ziX1, tyX1_ok, nmX1, by decide, q124, rfl, by decide +kernel, rfl⟩
theorem fd_X4_193 : zFd RX4 193 1 3 := ⟨RX1, TX1, 7, rfl, ziX1, by decide, q125⟩
theorem fp_X4_193 : zFp RX4 193 1 3 .int false := ⟨RX1, TX1, 7, tyX1, rfl, ziX1, tyX1_ok, nmX1, by decide, q125, rfl, by decide +kernel, rfl⟩
theorem fd_X1_27 : zFd RX1 27 1 4 := ⟨RX1, TX1, 7, rfl, ziX1, by decide, q126⟩
theorem fp_X1_27 : zFp RX1 27 1 4 .int false := ⟨RX1, TX1, 7, tyX1, rfl, ziX1, tyX1_ok, nmX1, by decide, q126, rfl, by decide +kernel, rfl⟩
theorem fd_X4_196 : zFd RX4 196 1 4 := ⟨RX1, TX1, 7, rfl, ziX1, by decide, q127⟩
theorem fp_X4_196 : zFp RX4 196 1 4 .int false := ⟨RX1, TX1, 7, tyX1, rfl, ziX1, tyX1_ok, nmX1, by decide, q127, rfl, by decide +kernel, rfl⟩
theorem fd_X1_30 : zFd RX1 30 1 5 := ⟨RX1, TX1, 7, rfl, ziX1, by decide, q128⟩
theorem fp_X1_30 : zFp RX1 30 1 5 .int false := ⟨RX1, TX1, 7, tyX1, rfl, ziX1, tyX1_ok, nmX1, by decide, q128, rfl, by decide +kernel, rfl⟩
theorem fd_X4_197 : zFd RX4 197 1 5 := ⟨RX1, TX1, 7, rfl, ziX1, by decide, q129⟩
theorem fp_X4_197 : zFp RX4 197 1 5 .int false := ⟨RX1, TX1, 7, tyX1, rfl, ziX1, tyX1_ok, nmX1, by decide, q129, rfl, by decide +kernel, rfl⟩
theorem fd_X1_33 : zFd RX1 33 1 6 := ⟨RX1, TX1, 7, rfl, ziX1, by decide, q130⟩
theorem fp_X1_33 : zFp RX1 33 1 6 .int false := ⟨RX1, TX1, 7, tyX1, rfl, ziX1, tyX1_ok, nmX1, by decide, q130, rfl, by decide +kernel, rfl⟩
theorem fd_X4_200 : zFd RX4 200 1 6 := ⟨RX1, TX1, 7, rfl, ziX1, by decide, q131⟩
theorem fp_X4_200 : zFp RX4 200 1 6 .int false := ⟨RX1, TX1, 7, tyX1, rfl, ziX1, tyX1_ok, nmX1, by decide, q131, rfl, by decide +kernel, rfl⟩
theorem fd_X2_11 : zFd RX2 11 2 0 := ⟨RX2, TX2, 3, rfl, ziX2, by decide, q156⟩
theorem fp_X2_11 : zFp RX2 11 2 0 (.array (.object "HerdCords$Herd")) true := ⟨RX2, TX2, 3, tyX2, rfl, ziX2, tyX2_ok, nmX2, by decide, q156, rfl, by decide +kernel, rfl⟩
theorem fd_X2_17 : zFd RX2 17 2 1 := ⟨RX2, TX2, 3, rfl, ziX2, by decide, q157⟩
theorem fp_X2_17 : zFp RX2 17 2 1 .int false := ⟨RX2, TX2, 3, tyX2, rfl, ziX2, tyX2_ok, nmX2, by decide, q157, rfl, by decide +kernel, rfl⟩
theorem fd_X2_21 : zFd RX2 21 2 2 := ⟨RX2, TX2, 3, rfl, ziX2, by decide, q158⟩
theorem fp_X2_21 : zFp RX2 21 2 2 .int false := ⟨RX2, TX2, 3, tyX2, rfl, ziX2, tyX2_ok, nmX2, by decide, q158, rfl, by decide +kernel, rfl⟩
theorem fd_X4_135 : zFd RX4 135 2 2 := ⟨RX2, TX2, 3, rfl, ziX2, by decide, q159⟩
theorem fp_X4_135 : zFp RX4 135 2 2 .int false := ⟨RX2, TX2, 3, tyX2, rfl, ziX2, tyX2_ok, nmX2, by decide, q159, rfl, by decide +kernel, rfl⟩
theorem fd_X3_11 : zFd RX3 11 3 0 := ⟨RX3, TX3, 5, rfl, ziX3, by decide, q173⟩
theorem fp_X3_11 : zFp RX3 11 3 0 .int false := ⟨RX3, TX3, 5, tyX3, rfl, ziX3, tyX3_ok, nmX3, by decide, q173, rfl, by decide +kernel, rfl⟩
theorem fd_X3_15 : zFd RX3 15 3 1 := ⟨RX3, TX3, 5, rfl, ziX3, by decide, q174⟩
theorem fp_X3_15 : zFp RX3 15 3 1 .int false := ⟨RX3, TX3, 5, tyX3, rfl, ziX3, tyX3_ok, nmX3, by decide, q174, rfl, by decide +kernel, rfl⟩
theorem fd_X3_18 : zFd RX3 18 3 2 := ⟨RX3, TX3, 5, rfl, ziX3, by decide, q175⟩
theorem fp_X3_18 : zFp RX3 18 3 2 .int false := ⟨RX3, TX3, 5, tyX3, rfl, ziX3, tyX3_ok, nmX3, by decide, q175, rfl, by decide +kernel, rfl⟩
theorem fd_X4_302 : zFd RX4 302 3 2 := ⟨RX3, TX3, 5, rfl, ziX3, by decide, q176⟩
theorem fp_X4_302 : zFp RX4 302 3 2 .int false := ⟨RX3, TX3, 5, tyX3, rfl, ziX3, tyX3_ok, nmX3, by decide, q176, rfl, by decide +kernel, rfl⟩
theorem fd_X3_21 : zFd RX3 21 3 3 := ⟨RX3, TX3, 5, rfl, ziX3, by decide, q177⟩
theorem fp_X3_21 : zFp RX3 21 3 3 .char false := ⟨RX3, TX3, 5, tyX3, rfl, ziX3, tyX3_ok, nmX3, by decide, q177, rfl, by decide +kernel, rfl⟩
theorem fd_X4_305 : zFd RX4 305 3 3 := ⟨RX3, TX3, 5, rfl, ziX3, by decide, q178⟩
theorem fp_X4_305 : zFp RX4 305 3 3 .char false := ⟨RX3, TX3, 5, tyX3, rfl, ziX3, tyX3_ok, nmX3, by decide, q178, rfl, by decide +kernel, rfl⟩
theorem fd_X3_25 : zFd RX3 25 3 4 := ⟨RX3, TX3, 5, rfl, ziX3, by decide, q179⟩
theorem fp_X3_25 : zFp RX3 25 3 4 .int false := ⟨RX3, TX3, 5, tyX3, rfl, ziX3, tyX3_ok, nmX3, by decide, q179, rfl, by decide +kernel, rfl⟩
theorem fd_X4_309 : zFd RX4 309 3 4 := ⟨RX3, TX3, 5, rfl, ziX3, by decide, q180⟩
theorem fp_X4_309 : zFp RX4 309 3 4 .int false := ⟨RX3, TX3, 5, tyX3, rfl, ziX3, tyX3_ok, nmX3, by decide, q180, rfl, by decide +kernel, rfl⟩
theorem fd_X4_10 : zFd RX4 10 4 0 := ⟨RX4, TX4, 8, rfl, ziX4, by decide, q195⟩
theorem fp_X4_10 : zFp RX4 10 4 0 (.object "HerdCords$Herd") true := ⟨RX4, TX4, 8, tyX4, rfl, ziX4, tyX4_ok, nmX4, by decide, q195, rfl, by decide +kernel, rfl⟩
theorem fd_X4_19 : zFd RX4 19 4 1 := ⟨RX4, TX4, 8, rfl, ziX4, by decide, q196⟩
theorem fp_X4_19 : zFp RX4 19 4 1 (.object "HerdCords$History") true := ⟨RX4, TX4, 8, tyX4, rfl, ziX4, tyX4_ok, nmX4, by decide, q196, rfl, by decide +kernel, rfl⟩
theorem fd_X4_23 : zFd RX4 23 4 2 := ⟨RX4, TX4, 8, rfl, ziX4, by decide, q197⟩
theorem fp_X4_23 : zFp RX4 23 4 2 (.array (.object "HerdCords$Herd")) true := ⟨RX4, TX4, 8, tyX4, rfl, ziX4, tyX4_ok, nmX4, by decide, q197, rfl, by decide +kernel, rfl⟩
theorem fd_X4_27 : zFd RX4 27 4 3 := ⟨RX4, TX4, 8, rfl, ziX4, by decide, q198⟩
theorem fp_X4_27 : zFp RX4 27 4 3 (.array .char) true := ⟨RX4, TX4, 8, tyX4, rfl, ziX4, tyX4_ok, nmX4, by decide, q198, rfl, by decide +kernel, rfl⟩
theorem fd_X4_31 : zFd RX4 31 4 4 := ⟨RX4, TX4, 8, rfl, ziX4, by decide, q199⟩
theorem fp_X4_31 : zFp RX4 31 4 4 .int false := ⟨RX4, TX4, 8, tyX4, rfl, ziX4, tyX4_ok, nmX4, by decide, q199, rfl, by decide +kernel, rfl⟩
theorem fd_X4_38 : zFd RX4 38 4 5 := ⟨RX4, TX4, 8, rfl, ziX4, by decide, q200⟩
theorem fp_X4_38 : zFp RX4 38 4 5 (.object "HerdCords$OrderReader") true := ⟨RX4, TX4, 8, tyX4, rfl, ziX4, tyX4_ok, nmX4, by decide, q200, rfl, by decide +kernel, rfl⟩
theorem fd_X4_45 : zFd RX4 45 4 6 := ⟨RX4, TX4, 8, rfl, ziX4, by decide, q201⟩
theorem fp_X4_45 : zFp RX4 45 4 6 (.object "HerdCords$Cord") true := ⟨RX4, TX4, 8, tyX4, rfl, ziX4, tyX4_ok, nmX4, by decide, q201, rfl, by decide +kernel, rfl⟩
theorem fd_X4_49 : zFd RX4 49 4 7 := ⟨RX4, TX4, 8, rfl, ziX4, by decide, q202⟩
theorem fp_X4_49 : zFp RX4 49 4 7 (.array .int) true := ⟨RX4, TX4, 8, tyX4, rfl, ziX4, tyX4_ok, nmX4, by decide, q202, rfl, by decide +kernel, rfl⟩
theorem fd_X5_35 : zFd RX5 35 5 0 := ⟨RX5, TX5, 12, rfl, ziX5, by decide, q777⟩
theorem fp_X5_35 : zFp RX5 35 5 0 .int false := ⟨RX5, TX5, 12, tyX5, rfl, ziX5, tyX5_ok, nmX5, by decide, q777, rfl, by decide +kernel, rfl⟩
theorem fd_X5_7 : zFd RX5 7 5 1 := ⟨RX5, TX5, 12, rfl, ziX5, by decide, q778⟩
theorem fp_X5_7 : zFp RX5 7 5 1 (.array .int) true := ⟨RX5, TX5, 12, tyX5, rfl, ziX5, tyX5_ok, nmX5, by decide, q778, rfl, by decide +kernel, rfl⟩
theorem fd_X5_13 : zFd RX5 13 5 2 := ⟨RX5, TX5, 12, rfl, ziX5, by decide, q779⟩
theorem fp_X5_13 : zFp RX5 13 5 2 (.array .int) true := ⟨RX5, TX5, 12, tyX5, rfl, ziX5, tyX5_ok, nmX5, by decide, q779, rfl, by decide +kernel, rfl⟩
theorem fd_X5_16 : zFd RX5 16 5 3 := ⟨RX5, TX5, 12, rfl, ziX5, by decide, q780⟩
theorem fp_X5_16 : zFp RX5 16 5 3 (.array .int) true := ⟨RX5, TX5, 12, tyX5, rfl, ziX5, tyX5_ok, nmX5, by decide, q780, rfl, by decide +kernel, rfl⟩
theorem fd_X5_19 : zFd RX5 19 5 4 := ⟨RX5, TX5, 12, rfl, ziX5, by decide, q781⟩
theorem fp_X5_19 : zFp RX5 19 5 4 (.array .boolean) true := ⟨RX5, TX5, 12, tyX5, rfl, ziX5, tyX5_ok, nmX5, by decide, q781, rfl, by decide +kernel, rfl⟩
theorem fd_X5_23 : zFd RX5 23 5 5 := ⟨RX5, TX5, 12, rfl, ziX5, by decide, q782⟩
theorem fp_X5_23 : zFp RX5 23 5 5 (.array .int) true := ⟨RX5, TX5, 12, tyX5, rfl, ziX5, tyX5_ok, nmX5, by decide, q782, rfl, by decide +kernel, rfl⟩
theorem fd_X5_47 : zFd RX5 47 5 6 := ⟨RX5, TX5, 12, rfl, ziX5, by decide, q783⟩
theorem fp_X5_47 : zFp RX5 47 5 6 .int false := ⟨RX5, TX5, 12, tyX5, rfl, ziX5, tyX5_ok, nmX5, by decide, q783, rfl, by decide +kernel, rfl⟩
theorem fd_X5_26 : zFd RX5 26 5 7 := ⟨RX5, TX5, 12, rfl, ziX5, by decide, q784⟩
theorem fp_X5_26 : zFp RX5 26 5 7 (.array .int) true := ⟨RX5, TX5, 12, tyX5, rfl, ziX5, tyX5_ok, nmX5, by decide, q784, rfl, by decide +kernel, rfl⟩
theorem fd_X5_104 : zFd RX5 104 5 8 := ⟨RX5, TX5, 12, rfl, ziX5, by decide, q785⟩
theorem fp_X5_104 : zFp RX5 104 5 8 .int false := ⟨RX5, TX5, 12, tyX5, rfl, ziX5, tyX5_ok, nmX5, by decide, q785, rfl, by decide +kernel, rfl⟩
theorem fd_X5_29 : zFd RX5 29 5 9 := ⟨RX5, TX5, 12, rfl, ziX5, by decide, q786⟩
theorem fp_X5_29 : zFp RX5 29 5 9 (.array .int) true := ⟨RX5, TX5, 12, tyX5, rfl, ziX5, tyX5_ok, nmX5, by decide, q786, rfl, by decide +kernel, rfl⟩
theorem fd_X5_32 : zFd RX5 32 5 10 := ⟨RX5, TX5, 12, rfl, ziX5, by decide, q787⟩
theorem fp_X5_32 : zFp RX5 32 5 10 (.array .int) true := ⟨RX5, TX5, 12, tyX5, rfl, ziX5, tyX5_ok, nmX5, by decide, q787, rfl, by decide +kernel, rfl⟩
theorem fd_X5_185 : zFd RX5 185 5 11 := ⟨RX5, TX5, 12, rfl, ziX5, by decide, q788⟩
theorem fp_X5_185 : zFp RX5 185 5 11 .long false := ⟨RX5, TX5, 12, tyX5, rfl, ziX5, tyX5_ok, nmX5, by decide, q788, rfl, by decide +kernel, rfl⟩
theorem lk_L_114 : zLv RL 114 4 yX4_clearBuffer cX4_clearBuffer 2 (some .int) 0 := zLv.of (T := TX4) (N := 8) rfl q220 q221 q222 q53 q223 (by decide +kernel)
theorem lk_L_118 : zLv RL 118 4 yX4_firstError cX4_firstError 1 (some .int) 0 := zLv.of (T := TX4) (N := 8) rfl q224 q225 q226 q53 q227 (by decide +kernel)
theorem lk_X4_111 : zLv RX4 111 4 yX4_readBuffer cX4_readBuffer 2 (some .int) 0 := zLv.of (T := TX4) (N := 8) rfl q228 q230 q0 q53 q231 (by decide +kernel)
theorem lk_X4_292 : zLv RX4 292 3 yX3_begin cX3_begin 1 none 0 := zLv.of (T := TX3) (N := 5) rfl q232 q233 q234 q57 q235 (by decide +kernel)
theorem lk_X4_295 : zLv RX4 295 3 yX3_takes cX3_takes 2 (some .boolean) 1 := zLv.of (T := TX3) (N := 5) rfl q236 q237 q238 q57 q239 (by decide +kernel)
theorem lk_X3_28 : zLv RX3 28 3 yX3_takesCord cX3_takesCord 2 (some .boolean) 1 := zLv.of (T := TX3) (N := 5) rfl q240 q242 q1 q57 q243 (by decide +kernel)
theorem lk_X3_32 : zLv RX3 32 3 yX3_takesKind cX3_takesKind 2 (some .boolean) 1 := zLv.of (T := TX3) (N := 5) rfl q244 q246 q2 q57 q247 (by decide +kernel)
theorem lk_X3_36 : zLv RX3 36 3 yX3_takesValue cX3_takesValue 2 (some .boolean) 1 := zLv.of (T := TX3) (N := 5) rfl q248 q250 q3 q57 q251 (by decide +kernel)
theorem lk_X3_46 : zLv RX3 46 3 yX3_mayBeginValue cX3_mayBeginValue 2 (some .boolean) 1 := zLv.of (T := TX3) (N := 5) rfl q252 q254 q4 q57 q255 (by decide +kernel)
theorem lk_X3_39 : zLv RX3 39 3 yX3_takesBetween cX3_takesBetween 1 (some .boolean) 0 := zLv.of (T := TX3) (N := 5) rfl q256 q258 q5 q57 q259 (by decide +kernel)
theorem lk_X3_43 : zLv RX3 43 3 yX3_takesDigit cX3_takesDigit 2 (some .boolean) 1 := zLv.of (T := TX3) (N := 5) rfl q260 q262 q6 q57 q263 (by decide +kernel)
theorem lk_L_160 : zLv RL 160 4 yX4_fullest cX4_fullest 1 (some .int) 0 := zLv.of (T := TX4) (N := 8) rfl q264 q265 q266 q53 q267 (by decide +kernel)
theorem lk_X4_237 : zLv RX4 237 1 yX1_fullestCord cX1_fullestCord 3 (some .int) 0 := zLv.of (T := TX1) (N := 7) rfl q268 q269 q270 q54 q271 (by decide +kernel)
theorem lk_X1_85 : zLv RX1 85 0 yX0_ties cX0_ties 1 (some .int) 0 := zLv.of (T := TX0) (N := 6) rfl q272 q273 q274 q55 q275 (by decide +kernel)
theorem lk_X0_52 : zLv RX0 52 0 yX0_allKnots cX0_allKnots 1 (some .int) 0 := zLv.of (T := TX0) (N := 6) rfl q276 q277 q278 q55 q279 (by decide +kernel)
theorem lk_X0_41 : zLs RX0 41 yX0_sumOf cX0_sumOf 4 (some .int) 2 := zLs.of q280 q281 q55 q282 (by decide +kernel)
theorem lk_X0_55 : zLv RX0 55 0 yX0_allLoops cX0_allLoops 1 (some .int) 0 := zLv.of (T := TX0) (N := 6) rfl q283 q284 q285 q55 q286 (by decide +kernel)
theorem lk_L_164 : zLv RL 164 4 yX4_closedShare cX4_closedShare 2 (some .double) 0 := zLv.of (T := TX4) (N := 8) rfl q287 q288 q289 q53 q290 (by decide +kernel)
theorem lk_X4_240 : zLv RX4 240 1 yX1_knots cX1_knots 6 (some .int) 0 := zLv.of (T := TX1) (N := 7) rfl q291 q292 q293 q54 q294 (by decide +kernel)
theorem lk_X1_45 : zLv RX1 45 0 yX0_allKnots cX0_allKnots 1 (some .int) 0 := zLv.of (T := TX0) (N := 6) rfl q295 q277 q278 q55 q279 (by decide +kernel)
theorem lk_X4_242 : zLv RX4 242 1 yX1_loops cX1_loops 6 (some .int) 0 := zLv.of (T := TX1) (N := 7) rfl q296 q297 q298 q54 q299 (by decide +kernel)
theorem lk_X1_49 : zLv RX1 49 0 yX0_allLoops cX0_allLoops 1 (some .int) 0 := zLv.of (T := TX0) (N := 6) rfl q300 q284 q285 q55 q286 (by decide +kernel)
theorem lk_L_169 : zLv RL 169 4 yX4_digest cX4_digest 4 (some .long) 0 := zLv.of (T := TX4) (N := 8) rfl q301 q302 q303 q53 q304 (by decide +kernel)
theorem lk_X4_246 : zLv RX4 246 4 yX4_count cX4_count 2 (some .int) 1 := zLv.of (T := TX4) (N := 8) rfl q306 q307 q308 q53 q309 (by decide +kernel)
theorem lk_X4_189 : zLv RX4 189 1 yX1_told cX1_told 6 (some .int) 0 := zLv.of (T := TX1) (N := 7) rfl q310 q311 q312 q54 q313 (by decide +kernel)
theorem lk_X1_60 : zLv RX1 60 0 yX0_told cX0_told 3 (some .int) 0 := zLv.of (T := TX0) (N := 6) rfl q314 q315 q316 q55 q317 (by decide +kernel)
theorem lk_X0_37 : zLv RX0 37 0 yX0_open cX0_open 2 (some .int) 1 := zLv.of (T := TX0) (N := 6) rfl q318 q319 q320 q55 q321 (by decide +kernel)
theorem lk_X4_130 : zLv RX4 130 1 yX1_ties cX1_ties 1 (some .int) 0 := zLv.of (T := TX1) (N := 7) rfl q322 q323 q324 q54 q325 (by decide +kernel)
theorem lk_X1_94 : zLv RX1 94 1 yX1_knots cX1_knots 6 (some .int) 0 := zLv.of (T := TX1) (N := 7) rfl q326 q292 q293 q54 q294 (by decide +kernel)
theorem lk_X1_96 : zLv RX1 96 1 yX1_loops cX1_loops 6 (some .int) 0 := zLv.of (T := TX1) (N := 7) rfl q327 q297 q298 q54 q299 (by decide +kernel)
theorem lk_X4_203 : zLv RX4 203 1 yX1_lacking cX1_lacking 6 (some .int) 0 := zLv.of (T := TX1) (N := 7) rfl q328 q329 q330 q54 q331 (by decide +kernel)
theorem lk_X1_67 : zLv RX1 67 0 yX0_lack cX0_lack 1 (some .int) 0 := zLv.of (T := TX0) (N := 6) rfl q332 q333 q334 q55 q335 (by decide +kernel)
theorem lk_X0_45 : zLv RX0 45 0 yX0_partsTogether cX0_partsTogether 1 (some .int) 0 := zLv.of (T := TX0) (N := 6) rfl q336 q337 q338 q55 q339 (by decide +kernel)
theorem lk_X0_49 : zLv RX0 49 0 yX0_told cX0_told 3 (some .int) 0 := zLv.of (T := TX0) (N := 6) rfl q340 q315 q316 q55 q317 (by decide +kernel)
theorem lk_X4_249 : zLs RX4 249 yX4_mix cX4_mix 4 (some .long) 2 := zLs.of q409 q410 q53 q411 (by decide +kernel)
theorem lk_X4_253 : zLv RX4 253 4 yX4_mixCord cX4_mixCord 8 (some .long) 2 := zLv.of (T := TX4) (N := 8) rfl q413 q415 q8 q53 q416 (by decide +kernel)
theorem lk_X4_326 : zLv RX4 326 4 yX4_cordOf cX4_cordOf 4 (some .int) 2 := zLv.of (T := TX4) (N := 8) rfl q417 q418 q419 q53 q420 (by decide +kernel)
theorem lk_X4_53 : zLv RX4 53 4 yX4_cordAt cX4_cordAt 2 (some (.object "HerdCords$Cord")) 1 := zLv.of (T := TX4) (N := 8) rfl q421 q423 q9 q53 q424 (by decide +kernel)
theorem lk_X4_143 : zLv RX4 143 0 yX0_told cX0_told 3 (some .int) 0 := zLv.of (T := TX0) (N := 6) rfl q441 q315 q316 q55 q317 (by decide +kernel)
theorem lk_X4_145 : zLv RX4 145 0 yX0_partsTogether cX0_partsTogether 1 (some .int) 0 := zLv.of (T := TX0) (N := 6) rfl q442 q337 q338 q55 q339 (by decide +kernel)
theorem lk_X4_151 : zLv RX4 151 0 yX0_lack cX0_lack 1 (some .int) 0 := zLv.of (T := TX0) (N := 6) rfl q443 q333 q334 q55 q335 (by decide +kernel)
theorem lk_X4_154 : zLv RX4 154 0 yX0_ties cX0_ties 1 (some .int) 0 := zLv.of (T := TX0) (N := 6) rfl q444 q273 q274 q55 q275 (by decide +kernel)
theorem lk_X4_155 : zLv RX4 155 0 yX0_allLoops cX0_allLoops 1 (some .int) 0 := zLv.of (T := TX0) (N := 6) rfl q445 q284 q285 q55 q286 (by decide +kernel)
theorem lk_X4_329 : zLv RX4 329 4 yX4_placeOf cX4_placeOf 5 (some .int) 3 := zLv.of (T := TX4) (N := 8) rfl q447 q448 q449 q53 q450 (by decide +kernel)
theorem lk_X4_80 : zLs RX4 80 yX4_checkPlace cX4_checkPlace 1 none 1 := zLs.of q451 q452 q53 q453 (by decide +kernel)
theorem lk_X4_169 : zLv RX4 169 0 yX0_open cX0_open 2 (some .int) 1 := zLv.of (T := TX0) (N := 6) rfl q455 q319 q320 q55 q321 (by decide +kernel)
theorem lk_X4_173 : zLv RX4 173 0 yX0_tiesAt cX0_tiesAt 2 (some .int) 1 := zLv.of (T := TX0) (N := 6) rfl q456 q457 q458 q55 q459 (by decide +kernel)
theorem lk_X4_176 : zLs RX4 176 yJ9_max_7cf53 cJ9_max_7cf53 2 (some .int) 2 := zLs.of q460 q461 q65 q462 (by decide +kernel)
theorem lk_X4_333 : zLv RX4 333 4 yX4_part cX4_part 4 (some .int) 2 := zLv.of (T := TX4) (N := 8) rfl q464 q465 q466 q53 q467 (by decide +kernel)
theorem lk_X4_336 : zLv RX4 336 4 yX4_whyNot cX4_whyNot 4 (some .int) 2 := zLv.of (T := TX4) (N := 8) rfl q469 q470 q471 q53 q472 (by decide +kernel)
theorem lk_X4_57 : zLs RX4 57 yX4_checkNumber cX4_checkNumber 1 none 1 := zLs.of q473 q474 q53 q475 (by decide +kernel)
theorem lk_X4_211 : zLv RX4 211 0 yX0_refusalOfPart cX0_refusalOfPart 3 (some .int) 2 := zLv.of (T := TX0) (N := 6) rfl q478 q479 q480 q55 q481 (by decide +kernel)
theorem lk_X0_66 : zLv RX0 66 0 yX0_refusal cX0_refusal 9 (some .int) 2 := zLv.of (T := TX0) (N := 6) rfl q482 q483 q484 q55 q485 (by decide +kernel)
theorem lk_X0_59 : zLv RX0 59 0 yX0_loopsFor cX0_loopsFor 3 (some .int) 2 := zLv.of (T := TX0) (N := 6) rfl q487 q489 q10 q55 q490 (by decide +kernel)
theorem lk_X0_63 : zLv RX0 63 0 yX0_tiesAt cX0_tiesAt 2 (some .int) 1 := zLv.of (T := TX0) (N := 6) rfl q491 q457 q458 q55 q459 (by decide +kernel)
theorem lk_X4_339 : zLv RX4 339 4 yX4_howOften cX4_howOften 5 (some .int) 2 := zLv.of (T := TX4) (N := 8) rfl q492 q493 q494 q53 q495 (by decide +kernel)
theorem lk_X4_214 : zLv RX4 214 0 yX0_copyFrom cX0_copyFrom 2 none 1 := zLv.of (T := TX0) (N := 6) rfl q496 q497 q498 q55 q499 (by decide +kernel)
theorem lk_X4_217 : zLv RX4 217 0 yX0_tieAsPart cX0_tieAsPart 2 none 1 := zLv.of (T := TX0) (N := 6) rfl q503 q504 q505 q55 q506 (by decide +kernel)
theorem lk_X0_69 : zLv RX0 69 0 yX0_tieKnots cX0_tieKnots 7 none 1 := zLv.of (T := TX0) (N := 6) rfl q507 q508 q509 q55 q510 (by decide +kernel)
theorem lk_X4_257 : zLv RX4 257 4 yX4_byHue cX4_byHue 2 (some .int) 1 := zLv.of (T := TX4) (N := 8) rfl q511 q512 q513 q53 q514 (by decide +kernel)
theorem lk_X4_93 : zLs RX4 93 yX4_checkHue cX4_checkHue 1 none 1 := zLs.of q515 q516 q53 q517 (by decide +kernel)
theorem lk_X4_208 : zLv RX4 208 1 yX1_toldInHue cX1_toldInHue 7 (some .int) 1 := zLv.of (T := TX1) (N := 7) rfl q519 q520 q521 q54 q522 (by decide +kernel)
theorem lk_X4_260 : zLv RX4 260 4 yX4_cordsFor cX4_cordsFor 3 (some .int) 2 := zLv.of (T := TX4) (N := 8) rfl q523 q524 q525 q53 q526 (by decide +kernel)
theorem lk_X4_225 : zLv RX4 225 1 yX1_tellEach cX1_tellEach 3 none 1 := zLv.of (T := TX1) (N := 7) rfl q530 q531 q532 q54 q533 (by decide +kernel)
theorem lk_X4_229 : zLs RX4 229 yX4_bestOfAllSets cX4_bestOfAllSets 4 (some .int) 2 := zLs.of q534 q535 q53 q536 (by decide +kernel)
theorem lk_X4_312 : zLs RX4 312 yX4_toldBySet cX4_toldBySet 4 (some .int) 2 := zLs.of q537 q538 q53 q539 (by decide +kernel)
theorem lk_X4_315 : zLs RX4 315 yX4_better cX4_better 3 (some .int) 2 := zLs.of q540 q541 q53 q542 (by decide +kernel)
theorem lk_X4_318 : zLs RX4 318 yJ6_bitCount_0f7a4 cJ6_bitCount_0f7a4 1 (some .int) 1 := zLs.of q543 q544 q67 q545 (by decide +kernel)
theorem lk_X4_323 : zLs RX4 323 yJ6_compare_7cf53 cJ6_compare_7cf53 2 (some .int) 2 := zLs.of q549 q550 q67 q551 (by decide +kernel)
theorem lk_X4_233 : zLs RX4 233 yX4_bestByTrying cX4_bestByTrying 6 (some .int) 5 := zLs.of q552 q553 q53 q554 (by decide +kernel)
theorem lk_X4_263 : zLv RX4 263 4 yX4_fullest cX4_fullest 1 (some .int) 0 := zLv.of (T := TX4) (N := 8) rfl q555 q265 q266 q53 q267 (by decide +kernel)
theorem lk_X4_266 : zLv RX4 266 4 yX4_closedShare cX4_closedShare 2 (some .double) 0 := zLv.of (T := TX4) (N := 8) rfl q556 q288 q289 q53 q290 (by decide +kernel)
theorem lk_X4_270 : zLs RX4 270 yX4_bitsOfShare cX4_bitsOfShare 8 (some .long) 1 := zLs.of q557 q558 q53 q559 (by decide +kernel)
theorem lk_L_7 : zLv RL 7 4 yX4_tie cX4_tie 4 (some .int) 2 := zLv.of (T := TX4) (N := 8) rfl q568 q569 q570 q53 q571 (by decide +kernel)
theorem lk_X4_61 : zLv RX4 61 2 yX2_save cX2_save 2 none 1 := zLv.of (T := TX2) (N := 3) rfl q572 q573 q574 q56 q575 (by decide +kernel)
theorem lk_X2_25 : zLv RX2 25 1 yX1_copyFrom cX1_copyFrom 3 none 1 := zLv.of (T := TX1) (N := 7) rfl q576 q577 q578 q54 q579 (by decide +kernel)
theorem lk_X1_37 : zLv RX1 37 0 yX0_copyFrom cX0_copyFrom 2 none 1 := zLv.of (T := TX0) (N := 6) rfl q580 q497 q498 q55 q499 (by decide +kernel)
theorem lk_X2_29 : zLs RX2 29 yJ9_min_7cf53 cJ9_min_7cf53 2 (some .int) 2 := zLs.of q581 q582 q65 q583 (by decide +kernel)
theorem lk_X4_65 : zLv RX4 65 1 yX1_tiePart cX1_tiePart 6 (some .int) 2 := zLv.of (T := TX1) (N := 7) rfl q584 q585 q586 q54 q587 (by decide +kernel)
theorem lk_X1_41 : zLv RX1 41 0 yX0_refusalOfPart cX0_refusalOfPart 3 (some .int) 2 := zLv.of (T := TX0) (N := 6) rfl q588 q479 q480 q55 q481 (by decide +kernel)
theorem lk_X1_52 : zLv RX1 52 0 yX0_tieAsPart cX0_tieAsPart 2 none 1 := zLv.of (T := TX0) (N := 6) rfl q589 q504 q505 q55 q506 (by decide +kernel)
theorem lk_X1_56 : zLv RX1 56 1 yX1_countTied cX1_countTied 5 (some .int) 3 := zLv.of (T := TX1) (N := 7) rfl q590 q592 q11 q54 q593 (by decide +kernel)
theorem lk_L_17 : zLv RL 17 4 yX4_add cX4_add 5 (some .int) 2 := zLv.of (T := TX4) (N := 8) rfl q597 q598 q599 q53 q600 (by decide +kernel)
theorem lk_X4_76 : zLv RX4 76 1 yX1_tieCord cX1_tieCord 4 (some .int) 2 := zLv.of (T := TX1) (N := 7) rfl q602 q603 q604 q54 q605 (by decide +kernel)
theorem lk_X1_63 : zLv RX1 63 1 yX1_tiePart cX1_tiePart 6 (some .int) 2 := zLv.of (T := TX1) (N := 7) rfl q606 q585 q586 q54 q587 (by decide +kernel)
theorem lk_L_20 : zLv RL 20 4 yX4_slip cX4_slip 4 (some .int) 2 := zLv.of (T := TX4) (N := 8) rfl q610 q611 q612 q53 q613 (by decide +kernel)
theorem lk_X4_83 : zLv RX4 83 1 yX1_loosen cX1_loosen 3 (some .int) 2 := zLv.of (T := TX1) (N := 7) rfl q614 q615 q616 q54 q617 (by decide +kernel)
theorem lk_X1_76 : zLv RX1 76 0 yX0_open cX0_open 2 (some .int) 1 := zLv.of (T := TX0) (N := 6) rfl q618 q319 q320 q55 q321 (by decide +kernel)
theorem lk_L_23 : zLv RL 23 4 yX4_mend cX4_mend 3 (some .int) 1 := zLv.of (T := TX4) (N := 8) rfl q622 q623 q624 q53 q625 (by decide +kernel)
theorem lk_X4_86 : zLv RX4 86 1 yX1_tieLack cX1_tieLack 6 (some .int) 1 := zLv.of (T := TX1) (N := 7) rfl q626 q627 q628 q54 q629 (by decide +kernel)
theorem lk_X1_70 : zLv RX1 70 0 yX0_refusal cX0_refusal 9 (some .int) 2 := zLv.of (T := TX0) (N := 6) rfl q630 q483 q484 q55 q485 (by decide +kernel)
theorem lk_X1_73 : zLv RX1 73 0 yX0_tieKnots cX0_tieKnots 7 none 1 := zLv.of (T := TX0) (N := 6) rfl q631 q508 q509 q55 q510 (by decide +kernel)
theorem lk_L_27 : zLv RL 27 4 yX4_renew cX4_renew 3 (some .int) 1 := zLv.of (T := TX4) (N := 8) rfl q635 q636 q637 q53 q638 (by decide +kernel)
theorem lk_X4_90 : zLv RX4 90 1 yX1_replace cX1_replace 3 (some .int) 1 := zLv.of (T := TX1) (N := 7) rfl q639 q640 q641 q54 q642 (by decide +kernel)
theorem lk_X1_88 : zLv RX1 88 0 yX0_becomeNew cX0_becomeNew 2 none 0 := zLv.of (T := TX0) (N := 6) rfl q643 q644 q645 q55 q646 (by decide +kernel)
theorem lk_L_30 : zLv RL 30 4 yX4_dye cX4_dye 5 (some .int) 2 := zLv.of (T := TX4) (N := 8) rfl q650 q651 q652 q53 q653 (by decide +kernel)
theorem lk_L_33 : zLv RL 33 4 yX4_set cX4_set 3 (some .int) 1 := zLv.of (T := TX4) (N := 8) rfl q657 q658 q659 q53 q660 (by decide +kernel)
theorem lk_L_36 : zLv RL 36 4 yX4_append cX4_append 2 (some .int) 1 := zLv.of (T := TX4) (N := 8) rfl q666 q667 q668 q53 q669 (by decide +kernel)
theorem lk_L_41 : zLv RL 41 4 yX4_run cX4_run 2 (some .int) 0 := zLv.of (T := TX4) (N := 8) rfl q690 q691 q692 q53 q693 (by decide +kernel)
theorem lk_X4_115 : zLv RX4 115 3 yX3_hasWholeOrder cX3_hasWholeOrder 1 (some .boolean) 0 := zLv.of (T := TX3) (N := 5) rfl q694 q695 q696 q57 q697 (by decide +kernel)
theorem lk_X4_121 : zLv RX4 121 4 yX4_doOrders cX4_doOrders 3 (some .int) 0 := zLv.of (T := TX4) (N := 8) rfl q699 q701 q12 q53 q702 (by decide +kernel)
theorem lk_X4_299 : zLv RX4 299 4 yX4_doOrderRead cX4_doOrderRead 3 (some .boolean) 0 := zLv.of (T := TX4) (N := 8) rfl q703 q705 q13 q53 q706 (by decide +kernel)
theorem lk_L_45 : zLv RL 45 4 yX4_keep cX4_keep 3 (some .int) 1 := zLv.of (T := TX4) (N := 8) rfl q710 q711 q712 q53 q713 (by decide +kernel)
theorem lk_X4_124 : zLs RX4 124 yX4_checkSlot cX4_checkSlot 1 none 1 := zLs.of q714 q715 q53 q716 (by decide +kernel)
theorem lk_X4_127 : zLv RX4 127 1 yX1_copyFrom cX1_copyFrom 3 none 1 := zLv.of (T := TX1) (N := 7) rfl q718 q577 q578 q54 q579 (by decide +kernel)
theorem lk_L_48 : zLv RL 48 4 yX4_goBack cX4_goBack 3 (some .int) 1 := zLv.of (T := TX4) (N := 8) rfl q722 q723 q724 q53 q725 (by decide +kernel)
theorem lk_L_51 : zLv RL 51 4 yX4_undo cX4_undo 1 (some .int) 0 := zLv.of (T := TX4) (N := 8) rfl q730 q731 q732 q53 q733 (by decide +kernel)
theorem lk_X4_140 : zLv RX4 140 2 yX2_restore cX2_restore 2 none 1 := zLv.of (T := TX2) (N := 3) rfl q735 q736 q737 q56 q738 (by decide +kernel)
theorem lk_L_54 : zLv RL 54 4 yX4_cordOf cX4_cordOf 4 (some .int) 2 := zLv.of (T := TX4) (N := 8) rfl q742 q418 q419 q53 q420 (by decide +kernel)
theorem lk_L_57 : zLv RL 57 4 yX4_placeOf cX4_placeOf 5 (some .int) 3 := zLv.of (T := TX4) (N := 8) rfl q746 q448 q449 q53 q450 (by decide +kernel)
theorem lk_L_61 : zLv RL 61 4 yX4_part cX4_part 4 (some .int) 2 := zLv.of (T := TX4) (N := 8) rfl q750 q465 q466 q53 q467 (by decide +kernel)
theorem lk_L_64 : zLv RL 64 4 yX4_count cX4_count 2 (some .int) 1 := zLv.of (T := TX4) (N := 8) rfl q754 q307 q308 q53 q309 (by decide +kernel)
theorem lk_L_67 : zLv RL 67 4 yX4_byHue cX4_byHue 2 (some .int) 1 := zLv.of (T := TX4) (N := 8) rfl q758 q512 q513 q53 q514 (by decide +kernel)
theorem lk_L_70 : zLv RL 70 4 yX4_whyNot cX4_whyNot 4 (some .int) 2 := zLv.of (T := TX4) (N := 8) rfl q762 q470 q471 q53 q472 (by decide +kernel)
theorem lk_L_73 : zLv RL 73 4 yX4_howOften cX4_howOften 5 (some .int) 2 := zLv.of (T := TX4) (N := 8) rfl q766 q493 q494 q53 q495 (by decide +kernel)
theorem lk_L_76 : zLv RL 76 4 yX4_cordsFor cX4_cordsFor 3 (some .int) 2 := zLv.of (T := TX4) (N := 8) rfl q770 q524 q525 q53 q526 (by decide +kernel)
theorem lk_L_89 : zLv RL 89 5 yX5_thrown cX5_thrown 1 (some .int) 0 := zLv.of (T := TX5) (N := 12) rfl q815 q816 q817 q58 q818 (by decide +kernel)
theorem lk_L_88 : zLv RL 88 5 yX5_tie cX5_tie 3 (some .int) 2 := zLv.of (T := TX5) (N := 12) rfl q819 q820 q821 q58 q822 (by decide +kernel)
theorem lk_X5_82 : zLs RX5 82 yX5_isCord cX5_isCord 1 (some .boolean) 1 := zLs.of q823 q824 q58 q825 (by decide +kernel)
theorem lk_X5_39 : zLs RX5 39 yX5_in cX5_in 3 (some .boolean) 3 := zLs.of q826 q827 q58 q828 (by decide +kernel)
theorem lk_X5_86 : zLv RX5 86 5 yX5_holds cX5_holds 2 (some .boolean) 1 := zLv.of (T := TX5) (N := 12) rfl q830 q832 q14 q58 q833 (by decide +kernel)
theorem lk_X5_89 : zLv RX5 89 5 yX5_save cX5_save 2 none 0 := zLv.of (T := TX5) (N := 12) rfl q834 q836 q15 q58 q837 (by decide +kernel)
theorem lk_X5_76 : zLv RX5 76 5 yX5_tiesPart cX5_tiesPart 4 (some .int) 2 := zLv.of (T := TX5) (N := 12) rfl q838 q840 q16 q58 q841 (by decide +kernel)
theorem lk_X5_70 : zLv RX5 70 5 yX5_reasonFor cX5_reasonFor 3 (some .int) 2 := zLv.of (T := TX5) (N := 12) rfl q842 q844 q17 q58 q845 (by decide +kernel)
theorem lk_X5_50 : zLv RX5 50 5 yX5_of cX5_of 3 (some .int) 2 := zLv.of (T := TX5) (N := 12) rfl q846 q848 q18 q58 q849 (by decide +kernel)
theorem lk_X5_43 : zLs RX5 43 yX5_at cX5_at 2 (some .int) 2 := zLs.of q850 q851 q58 q852 (by decide +kernel)
theorem lk_X5_67 : zLv RX5 67 5 yX5_lays cX5_lays 9 (some .int) 2 := zLv.of (T := TX5) (N := 12) rfl q853 q855 q19 q58 q856 (by decide +kernel)
theorem lk_X5_60 : zLv RX5 60 5 yX5_told cX5_told 4 (some .int) 1 := zLv.of (T := TX5) (N := 12) rfl q857 q859 q20 q58 q860 (by decide +kernel)
theorem lk_X5_53 : zLv RX5 53 5 yX5_open cX5_open 3 (some .int) 2 := zLv.of (T := TX5) (N := 12) rfl q861 q863 q21 q58 q864 (by decide +kernel)
theorem lk_X5_73 : zLv RX5 73 5 yX5_knits cX5_knits 4 (some .int) 1 := zLv.of (T := TX5) (N := 12) rfl q865 q867 q22 q58 q868 (by decide +kernel)
theorem lk_L_94 : zLv RL 94 5 yX5_add cX5_add 3 (some .int) 2 := zLv.of (T := TX5) (N := 12) rfl q869 q870 q871 q58 q872 (by decide +kernel)
theorem lk_X5_92 : zLv RX5 92 5 yX5_adds cX5_adds 3 (some .int) 2 := zLv.of (T := TX5) (N := 12) rfl q873 q875 q23 q58 q876 (by decide +kernel)
theorem lk_L_97 : zLv RL 97 5 yX5_slip cX5_slip 3 (some .int) 2 := zLv.of (T := TX5) (N := 12) rfl q877 q878 q879 q58 q880 (by decide +kernel)
theorem lk_X5_95 : zLv RX5 95 5 yX5_slips cX5_slips 3 (some .int) 2 := zLv.of (T := TX5) (N := 12) rfl q881 q883 q24 q58 q884 (by decide +kernel)
theorem lk_L_101 : zLv RL 101 5 yX5_mend cX5_mend 2 (some .int) 1 := zLv.of (T := TX5) (N := 12) rfl q885 q886 q887 q58 q888 (by decide +kernel)
theorem lk_X5_98 : zLv RX5 98 5 yX5_mends cX5_mends 5 (some .int) 1 := zLv.of (T := TX5) (N := 12) rfl q889 q891 q25 q58 q892 (by decide +kernel)
theorem lk_X5_79 : zLv RX5 79 5 yX5_lacks cX5_lacks 2 (some .int) 1 := zLv.of (T := TX5) (N := 12) rfl q893 q895 q26 q58 q896 (by decide +kernel)
theorem lk_X5_56 : zLv RX5 56 5 yX5_partsTold cX5_partsTold 4 (some .int) 1 := zLv.of (T := TX5) (N := 12) rfl q897 q899 q27 q58 q900 (by decide +kernel)
theorem lk_L_104 : zLv RL 104 5 yX5_renew cX5_renew 4 (some .int) 1 := zLv.of (T := TX5) (N := 12) rfl q901 q902 q903 q58 q904 (by decide +kernel)
theorem lk_X5_63 : zLv RX5 63 5 yX5_ties cX5_ties 4 (some .int) 1 := zLv.of (T := TX5) (N := 12) rfl q905 q907 q28 q58 q908 (by decide +kernel)
theorem lk_L_107 : zLv RL 107 5 yX5_dye cX5_dye 3 (some .int) 2 := zLv.of (T := TX5) (N := 12) rfl q909 q910 q911 q58 q912 (by decide +kernel)
theorem lk_X5_101 : zLv RX5 101 5 yX5_puts cX5_puts 4 (some .int) 2 := zLv.of (T := TX5) (N := 12) rfl q913 q915 q29 q58 q916 (by decide +kernel)
theorem lk_L_110 : zLv RL 110 5 yX5_set cX5_set 2 (some .int) 1 := zLv.of (T := TX5) (N := 12) rfl q917 q918 q919 q58 q920 (by decide +kernel)
theorem lk_L_113 : zLv RL 113 5 yX5_append cX5_append 2 (some .int) 1 := zLv.of (T := TX5) (N := 12) rfl q921 q922 q923 q58 q924 (by decide +kernel)
theorem lk_L_117 : zLv RL 117 5 yX5_clearBuffer cX5_clearBuffer 2 (some .int) 0 := zLv.of (T := TX5) (N := 12) rfl q925 q926 q927 q58 q928 (by decide +kernel)
theorem lk_L_121 : zLv RL 121 5 yX5_firstError cX5_firstError 1 (some .int) 0 := zLv.of (T := TX5) (N := 12) rfl q929 q930 q931 q58 q932 (by decide +kernel)
theorem lk_X5_119 : zLv RX5 119 5 yX5_wrong cX5_wrong 3 (some .int) 0 := zLv.of (T := TX5) (N := 12) rfl q933 q935 q30 q58 q936 (by decide +kernel)
theorem lk_X5_116 : zLv RX5 116 5 yX5_behindOrder cX5_behindOrder 4 (some .int) 1 := zLv.of (T := TX5) (N := 12) rfl q937 q939 q31 q58 q940 (by decide +kernel)
theorem lk_X5_110 : zLv RX5 110 5 yX5_digitAt cX5_digitAt 2 (some .int) 1 := zLv.of (T := TX5) (N := 12) rfl q941 q943 q32 q58 q944 (by decide +kernel)
theorem lk_X5_107 : zLv RX5 107 5 yX5_charAt cX5_charAt 2 (some .int) 1 := zLv.of (T := TX5) (N := 12) rfl q945 q947 q33 q58 q948 (by decide +kernel)
theorem lk_X5_113 : zLv RX5 113 5 yX5_behindNumber cX5_behindNumber 3 (some .int) 1 := zLv.of (T := TX5) (N := 12) rfl q949 q951 q34 q58 q952 (by decide +kernel)
theorem lk_L_125 : zLv RL 125 5 yX5_run cX5_run 5 (some .int) 0 := zLv.of (T := TX5) (N := 12) rfl q953 q954 q955 q58 q956 (by decide +kernel)
theorem lk_X5_123 : zLv RX5 123 5 yX5_does cX5_does 6 (some .boolean) 2 := zLv.of (T := TX5) (N := 12) rfl q957 q959 q35 q58 q960 (by decide +kernel)
theorem lk_L_128 : zLv RL 128 5 yX5_keep cX5_keep 3 (some .int) 1 := zLv.of (T := TX5) (N := 12) rfl q961 q962 q963 q58 q964 (by decide +kernel)
theorem lk_X5_127 : zLv RX5 127 5 yX5_allTies cX5_allTies 3 (some .int) 0 := zLv.of (T := TX5) (N := 12) rfl q965 q967 q36 q58 q968 (by decide +kernel)
theorem lk_L_131 : zLv RL 131 5 yX5_goBack cX5_goBack 4 (some .int) 1 := zLv.of (T := TX5) (N := 12) rfl q969 q970 q971 q58 q972 (by decide +kernel)
theorem lk_L_134 : zLv RL 134 5 yX5_undo cX5_undo 2 (some .int) 0 := zLv.of (T := TX5) (N := 12) rfl q973 q974 q975 q58 q976 (by decide +kernel)
theorem lk_L_137 : zLv RL 137 5 yX5_cordOf cX5_cordOf 3 (some .int) 2 := zLv.of (T := TX5) (N := 12) rfl q977 q978 q979 q58 q980 (by decide +kernel)
theorem lk_X5_133 : zLv RX5 133 5 yX5_number cX5_number 3 (some .int) 2 := zLv.of (T := TX5) (N := 12) rfl q981 q983 q37 q58 q984 (by decide +kernel)
theorem lk_X5_130 : zLv RX5 130 5 yX5_loopsOf cX5_loopsOf 4 (some .int) 1 := zLv.of (T := TX5) (N := 12) rfl q985 q987 q38 q58 q988 (by decide +kernel)
theorem lk_L_141 : zLv RL 141 5 yX5_placeOf cX5_placeOf 4 (some .int) 3 := zLv.of (T := TX5) (N := 12) rfl q989 q990 q991 q58 q992 (by decide +kernel)
theorem lk_X5_136 : zLv RX5 136 5 yX5_atPlace cX5_atPlace 5 (some .int) 3 := zLv.of (T := TX5) (N := 12) rfl q993 q995 q39 q58 q996 (by decide +kernel)
theorem lk_L_144 : zLv RL 144 5 yX5_part cX5_part 3 (some .int) 2 := zLv.of (T := TX5) (N := 12) rfl q997 q998 q999 q58 q1000 (by decide +kernel)
theorem lk_L_147 : zLv RL 147 5 yX5_count cX5_count 2 (some .int) 1 := zLv.of (T := TX5) (N := 12) rfl q1001 q1002 q1003 q58 q1004 (by decide +kernel)
theorem lk_X5_143 : zLv RX5 143 5 yX5_counted cX5_counted 2 (some .int) 1 := zLv.of (T := TX5) (N := 12) rfl q1005 q1007 q40 q58 q1008 (by decide +kernel)
theorem lk_X5_140 : zLv RX5 140 5 yX5_sumOf cX5_sumOf 4 (some .int) 1 := zLv.of (T := TX5) (N := 12) rfl q1009 q1011 q41 q58 q1012 (by decide +kernel)
theorem lk_L_150 : zLv RL 150 5 yX5_byHue cX5_byHue 2 (some .int) 1 := zLv.of (T := TX5) (N := 12) rfl q1013 q1014 q1015 q58 q1016 (by decide +kernel)
theorem lk_X5_146 : zLv RX5 146 5 yX5_ofHue cX5_ofHue 4 (some .int) 1 := zLv.of (T := TX5) (N := 12) rfl q1017 q1019 q42 q58 q1020 (by decide +kernel)
theorem lk_L_153 : zLv RL 153 5 yX5_whyNot cX5_whyNot 3 (some .int) 2 := zLv.of (T := TX5) (N := 12) rfl q1021 q1022 q1023 q58 q1024 (by decide +kernel)
theorem lk_L_156 : zLv RL 156 5 yX5_howOften cX5_howOften 3 (some .int) 2 := zLv.of (T := TX5) (N := 12) rfl q1025 q1026 q1027 q58 q1028 (by decide +kernel)
theorem lk_X5_155 : zLv RX5 155 5 yX5_times cX5_times 4 (some .int) 2 := zLv.of (T := TX5) (N := 12) rfl q1029 q1031 q43 q58 q1032 (by decide +kernel)
theorem lk_X5_149 : zLv RX5 149 5 yX5_putAside cX5_putAside 2 none 0 := zLv.of (T := TX5) (N := 12) rfl q1033 q1035 q44 q58 q1036 (by decide +kernel)
theorem lk_X5_152 : zLv RX5 152 5 yX5_putBack cX5_putBack 2 none 0 := zLv.of (T := TX5) (N := 12) rfl q1037 q1039 q45 q58 q1040 (by decide +kernel)
theorem lk_L_159 : zLv RL 159 5 yX5_cordsFor cX5_cordsFor 3 (some .int) 2 := zLv.of (T := TX5) (N := 12) rfl q1041 q1042 q1043 q58 q1044 (by decide +kernel)
theorem lk_X5_165 : zLv RX5 165 5 yX5_setFor cX5_setFor 4 (some .int) 1 := zLv.of (T := TX5) (N := 12) rfl q1046 q1048 q46 q58 q1049 (by decide +kernel)
theorem lk_X5_158 : zLv RX5 158 5 yX5_toldBy cX5_toldBy 4 (some .int) 1 := zLv.of (T := TX5) (N := 12) rfl q1050 q1052 q47 q58 q1053 (by decide +kernel)
theorem lk_X5_161 : zLs RX5 161 yX5_many cX5_many 3 (some .int) 1 := zLs.of q1054 q1055 q58 q1056 (by decide +kernel)
theorem lk_L_163 : zLv RL 163 5 yX5_fullest cX5_fullest 1 (some .int) 0 := zLv.of (T := TX5) (N := 12) rfl q1057 q1058 q1059 q58 q1060 (by decide +kernel)
theorem lk_X5_168 : zLv RX5 168 5 yX5_fullestOne cX5_fullestOne 3 (some .int) 0 := zLv.of (T := TX5) (N := 12) rfl q1061 q1063 q48 q58 q1064 (by decide +kernel)
theorem lk_L_168 : zLv RL 168 5 yX5_closedShare cX5_closedShare 1 (some .double) 0 := zLv.of (T := TX5) (N := 12) rfl q1065 q1066 q1067 q58 q1068 (by decide +kernel)
theorem lk_X5_171 : zLv RX5 171 5 yX5_share cX5_share 4 (some .double) 0 := zLv.of (T := TX5) (N := 12) rfl q1069 q1071 q49 q58 q1072 (by decide +kernel)
theorem lk_L_173 : zLv RL 173 5 yX5_digest cX5_digest 2 (some .long) 0 := zLv.of (T := TX5) (N := 12) rfl q1073 q1074 q1075 q58 q1076 (by decide +kernel)
theorem lk_X5_189 : zLv RX5 189 5 yX5_digestOne cX5_digestOne 3 none 1 := zLv.of (T := TX5) (N := 12) rfl q1078 q1080 q50 q58 q1081 (by decide +kernel)
theorem lk_X5_195 : zLv RX5 195 5 yX5_digestCord cX5_digestCord 3 none 1 := zLv.of (T := TX5) (N := 12) rfl q1083 q1085 q51 q58 q1086 (by decide +kernel)
theorem lk_X5_199 : zLs RX5 199 yX5_bitsOf cX5_bitsOf 6 (some .long) 1 := zLs.of q1087 q1088 q58 q1089 (by decide +kernel)
end
section
def zOne (n : Nat) : Nat → Prop := fun x => x = n
def zRg (a b : Nat) : Nat → Prop := fun x => a ≤ x ∧ x < b
def isC (cy : Nat → ClassId) (K : Nat) (ad : Nat → Nat) (g : Nat → va_E) (n : Nat) (kn : Nat → Int32) (lo : Nat → Int32) (pa : Nat → Int32) (pc : Int32) (hu : Int32) (sl : Int32) : Prop := n + 4 ≤ K ∧ g n = .inr (0, [.ref (ad (n + 1)), .ref (ad (n + 2)), .ref (ad (n + 3)), .int pc, .int hu, .int sl]) ∧ g (n + 1) = .inl (cy 1, 6, .inl kn) ∧ g (n + 2) = .inl (cy 1, 6, .inl lo) ∧ g (n + 3) = .inl (cy 1, 16, .inl pa)
theorem isC.n0 {cy : Nat → ClassId} {K : Nat} {ad : Nat → Nat} {g : Nat → va_E} {n : Nat} {kn : Nat → Int32} {lo : Nat → Int32} {pa : Nat → Int32} {pc : Int32} {hu : Int32} {sl : Int32} (h : isC cy K ad g n kn lo pa pc hu sl) : n < K := by have h1 := h.1; omega
theorem isC.n1 {cy : Nat → ClassId} {K : Nat} {ad : Nat → Nat} {g : Nat → va_E} {n : Nat} {kn : Nat → Int32} {lo : Nat → Int32} {pa : Nat → Int32} {pc : Int32} {hu : Int32} {sl : Int32} (h : isC cy K ad g n kn lo pa pc hu sl) : (n + 1) < K := by have h1 := h.1; omega
theorem isC.n2 {cy : Nat → ClassId} {K : Nat} {ad : Nat → Nat} {g : Nat → va_E} {n : Nat} {kn : Nat → Int32} {lo : Nat → Int32} {pa : Nat → Int32} {pc : Int32} {hu : Int32} {sl : Int32} (h : isC cy K ad g n kn lo pa pc hu sl) : (n + 2) < K := by have h1 := h.1; omega
theorem isC.n3 {cy : Nat → ClassId} {K : Nat} {ad : Nat → Nat} {g : Nat → va_E} {n : Nat} {kn : Nat → Int32} {lo : Nat → Int32} {pa : Nat → Int32} {pc : Int32} {hu : Int32} {sl : Int32} (h : isC cy K ad g n kn lo pa pc hu sl) : (n + 3) < K := by have h1 := h.1; omega
theorem isC.o {cy : Nat → ClassId} {K : Nat} {ad : Nat → Nat} {g : Nat → va_E} {n : Nat} {kn : Nat → Int32} {lo : Nat → Int32} {pa : Nat → Int32} {pc : Int32} {hu : Int32} {sl : Int32} (h : isC cy K ad g n kn lo pa pc hu sl) : g n = .inr (0, [.ref (ad (n + 1)), .ref (ad (n + 2)), .ref (ad (n + 3)), .int pc, .int hu, .int sl]) := h.2.1
theorem isC.a_kn {cy : Nat → ClassId} {K : Nat} {ad : Nat → Nat} {g : Nat → va_E} {n : Nat} {kn : Nat → Int32} {lo : Nat → Int32} {pa : Nat → Int32} {pc : Int32} {hu : Int32} {sl : Int32} (h : isC cy K ad g n kn lo pa pc hu sl) : g (n + 1) = .inl (cy 1, 6, .inl kn) := h.2.2.1
theorem isC.a_lo {cy : Nat → ClassId} {K : Nat} {ad : Nat → Nat} {g : Nat → va_E} {n : Nat} {kn : Nat → Int32} {lo : Nat → Int32} {pa : Nat → Int32} {pc : Int32} {hu : Int32} {sl : Int32} (h : isC cy K ad g n kn lo pa pc hu sl) : g (n + 2) = .inl (cy 1, 6, .inl lo) := h.2.2.2.1
theorem isC.a_pa {cy : Nat → ClassId} {K : Nat} {ad : Nat → Nat} {g : Nat → va_E} {n : Nat} {kn : Nat → Int32} {lo : Nat → Int32} {pa : Nat → Int32} {pc : Int32} {hu : Int32} {sl : Int32} (h : isC cy K ad g n kn lo pa pc hu sl) : g (n + 3) = .inl (cy 1, 16, .inl pa) := h.2.2.2.2
theorem isC.kept {cy : Nat → ClassId} {K : Nat} {ad : Nat → Nat} {g : Nat → va_E} {n : Nat} {kn : Nat → Int32} {lo : Nat → Int32} {pa : Nat → Int32} {pc : Int32} {hu : Int32} {sl : Int32} (h : isC cy K ad g n kn lo pa pc hu sl) {P : Nat → Prop} {g1 : Nat → va_E} (hf : zFr P g g1) (hd : ¬ P n ∧ ¬ P (n + 1) ∧ ¬ P (n + 2) ∧ ¬ P (n + 3)) : isC cy K ad g1 n kn lo pa pc hu sl := ⟨h.1, (hf _ hd.1).trans h.o, (hf _ hd.2.1).trans h.a_kn, (hf _ hd.2.2.1).trans h.a_lo, (hf _ hd.2.2.2).trans h.a_pa⟩
theorem zp_C_pc {p : Program} {l : Launch} {e : Env} {R : Room} {s0 : State} {m : MethodId} {args : Array Value} {below : List Frame} {meth : Method} {c : Code} {H : Heap} {locs : List Loc} {cells slots : Nat} {Q : State → Prop} {D : va_G} {cy : Nat → ClassId} {K : Nat} {ad : Nat → Nat} {g g0 : Nat → va_E} {P : Nat → Prop} {A : Nat → Prop} {cc : ByteArray} {own : String} {nL pc9 : Nat} {ls : Array Slot} {rest : List Value} {n : Nat} {kn : Nat → Int32} {lo : Nat → Int32} {pa : Nat → Int32} {pc : Int32} {hu : Int32} {sl : Int32} (C0 : zC p s0 m args c meth cc nL own D cy A) (hP : zP D K ad g A H) (hS : va_S A s0.heap H locs) (h : isC cy K ad g n kn lo pa pc hu sl) (hFr : zFr P g0 g) (hp : P n) {index : Nat} (hF : zFp own index 0 3 .int false) {v9 : Int32} (hdg : decode cc pc9 = .ok (.putfield index, 3))
    (kk : ∀ (g1 : Nat → va_E) (H1 : Heap) (locs1 : List Loc), zP D K ad g1 A H1 → va_S A s0.heap H1 locs1 → isC cy K ad g1 n kn lo pa v9 hu sl → zFr P g0 g1 → zFr (zOne n) g g1 → W p l e R s0 m args below meth c H1 locs1 cells slots Q (F0 m (pc9 + 3) ls rest)) : W p l e R s0 m args below meth c H locs cells slots Q (F0 m pc9 ls (.int v9 :: .ref (ad n) :: rest)) := by
  have hs := h.1
  refine z_put C0 hP hS h.n0 h.o hF rfl rfl (Nat.le_of_ble_eq_true rfl) hdg (fun H1 locs1 h1 h2 => ?_)
  exact kk _ H1 locs1 h1 h2 ⟨h.1, va_up_self _ _ _, (va_up_ne _ _ (by omega)).trans h.a_kn, (va_up_ne _ _ (by omega)).trans h.a_lo, (va_up_ne _ _ (by omega)).trans h.a_pa⟩ (hFr.up hp) (zFr.up zFr.rf rfl)
theorem zp_C_hu {p : Program} {l : Launch} {e : Env} {R : Room} {s0 : State} {m : MethodId} {args : Array Value} {below : List Frame} {meth : Method} {c : Code} {H : Heap} {locs : List Loc} {cells slots : Nat} {Q : State → Prop} {D : va_G} {cy : Nat → ClassId} {K : Nat} {ad : Nat → Nat} {g g0 : Nat → va_E} {P : Nat → Prop} {A : Nat → Prop} {cc : ByteArray} {own : String} {nL pc9 : Nat} {ls : Array Slot} {rest : List Value} {n : Nat} {kn : Nat → Int32} {lo : Nat → Int32} {pa : Nat → Int32} {pc : Int32} {hu : Int32} {sl : Int32} (C0 : zC p s0 m args c meth cc nL own D cy A) (hP : zP D K ad g A H) (hS : va_S A s0.heap H locs) (h : isC cy K ad g n kn lo pa pc hu sl) (hFr : zFr P g0 g) (hp : P n) {index : Nat} (hF : zFp own index 0 4 .int false) {v9 : Int32} (hdg : decode cc pc9 = .ok (.putfield index, 3))
    (kk : ∀ (g1 : Nat → va_E) (H1 : Heap) (locs1 : List Loc), zP D K ad g1 A H1 → va_S A s0.heap H1 locs1 → isC cy K ad g1 n kn lo pa pc v9 sl → zFr P g0 g1 → zFr (zOne n) g g1 → W p l e R s0 m args below meth c H1 locs1 cells slots Q (F0 m (pc9 + 3) ls rest)) : W p l e R s0 m args below meth c H locs cells slots Q (F0 m pc9 ls (.int v9 :: .ref (ad n) :: rest)) := by
  have hs := h.1
  refine z_put C0 hP hS h.n0 h.o hF rfl rfl (Nat.le_of_ble_eq_true rfl) hdg (fun H1 locs1 h1 h2 => ?_)
  exact kk _ H1 locs1 h1 h2 ⟨h.1, va_up_self _ _ _, (va_up_ne _ _ (by omega)).trans h.a_kn, (va_up_ne _ _ (by omega)).trans h.a_lo, (va_up_ne _ _ (by omega)).trans h.a_pa⟩ (hFr.up hp) (zFr.up zFr.rf rfl)
theorem zp_C_sl {p : Program} {l : Launch} {e : Env} {R : Room} {s0 : State} {m : MethodId} {args : Array Value} {below : List Frame} {meth : Method} {c : Code} {H : Heap} {locs : List Loc} {cells slots : Nat} {Q : State → Prop} {D : va_G} {cy : Nat → ClassId} {K : Nat} {ad : Nat → Nat} {g g0 : Nat → va_E} {P : Nat → Prop} {A : Nat → Prop} {cc : ByteArray} {own : String} {nL pc9 : Nat} {ls : Array Slot} {rest : List Value} {n : Nat} {kn : Nat → Int32} {lo : Nat → Int32} {pa : Nat → Int32} {pc : Int32} {hu : Int32} {sl : Int32} (C0 : zC p s0 m args c meth cc nL own D cy A) (hP : zP D K ad g A H) (hS : va_S A s0.heap H locs) (h : isC cy K ad g n kn lo pa pc hu sl) (hFr : zFr P g0 g) (hp : P n) {index : Nat} (hF : zFp own index 0 5 .int false) {v9 : Int32} (hdg : decode cc pc9 = .ok (.putfield index, 3))
    (kk : ∀ (g1 : Nat → va_E) (H1 : Heap) (locs1 : List Loc), zP D K ad g1 A H1 → va_S A s0.heap H1 locs1 → isC cy K ad g1 n kn lo pa pc hu v9 → zFr P g0 g1 → zFr (zOne n) g g1 → W p l e R s0 m args below meth c H1 locs1 cells slots Q (F0 m (pc9 + 3) ls rest)) : W p l e R s0 m args below meth c H locs cells slots Q (F0 m pc9 ls (.int v9 :: .ref (ad n) :: rest)) := by
  have hs := h.1
  refine z_put C0 hP hS h.n0 h.o hF rfl rfl (Nat.le_of_ble_eq_true rfl) hdg (fun H1 locs1 h1 h2 => ?_)
  exact kk _ H1 locs1 h1 h2 ⟨h.1, va_up_self _ _ _, (va_up_ne _ _ (by omega)).trans h.a_kn, (va_up_ne _ _ (by omega)).trans h.a_lo, (va_up_ne _ _ (by omega)).trans h.a_pa⟩ (hFr.up hp) (zFr.up zFr.rf rfl)
theorem zp_C_kn {p : Program} {l : Launch} {e : Env} {R : Room} {s0 : State} {m : MethodId} {args : Array Value} {below : List Frame} {meth : Method} {c : Code} {H : Heap} {locs : List Loc} {cells slots : Nat} {Q : State → Prop} {D : va_G} {cy : Nat → ClassId} {K : Nat} {ad : Nat → Nat} {g g0 : Nat → va_E} {P : Nat → Prop} {A : Nat → Prop} {cc : ByteArray} {own : String} {nL pc9 : Nat} {ls : Array Slot} {rest : List Value} {n : Nat} {kn : Nat → Int32} {lo : Nat → Int32} {pa : Nat → Int32} {pc : Int32} {hu : Int32} {sl : Int32} (C0 : zC p s0 m args c meth cc nL own D cy A) (hP : zP D K ad g A H) (hS : va_S A s0.heap H locs) (h : isC cy K ad g n kn lo pa pc hu sl) (hFr : zFr P g0 g) (hp : P (n + 1)) {i9 : Int32} {v9 : Int32} {j9 : Nat} (hi : zIx i9 6 j9) (hdg : decode cc pc9 = .ok (.iastore, 1))
    (kk : ∀ (g1 : Nat → va_E) (H1 : Heap) (locs1 : List Loc), zP D K ad g1 A H1 → va_S A s0.heap H1 locs1 → isC cy K ad g1 n (upd kn j9 v9) lo pa pc hu sl → zFr P g0 g1 → zFr (zOne (n + 1)) g g1 → W p l e R s0 m args below meth c H1 locs1 cells slots Q (F0 m (pc9 + 1) ls rest)) : W p l e R s0 m args below meth c H locs cells slots Q (F0 m pc9 ls (.int v9 :: .int i9 :: .ref (ad (n + 1)) :: rest)) := by
  have hs := h.1
  refine z_iast C0 hP hS h.n1 h.a_kn hi hdg (fun H1 locs1 h1 h2 => ?_)
  exact kk _ H1 locs1 h1 h2 ⟨h.1, (va_up_ne _ _ (by omega)).trans h.o, va_up_self _ _ _, (va_up_ne _ _ (by omega)).trans h.a_lo, (va_up_ne _ _ (by omega)).trans h.a_pa⟩ (hFr.up hp) (zFr.up zFr.rf rfl)
theorem zp_C_lo {p : Program} {l : Launch} {e : Env} {R : Room} {s0 : State} {m : MethodId} {args : Array Value} {below : List Frame} {meth : Method} {c : Code} {H : Heap} {locs : List Loc} {cells slots : Nat} {Q : State → Prop} {D : va_G} {cy : Nat → ClassId} {K : Nat} {ad : Nat → Nat} {g g0 : Nat → va_E} {P : Nat → Prop} {A : Nat → Prop} {cc : ByteArray} {own : String} {nL pc9 : Nat} {ls : Array Slot} {rest : List Value} {n : Nat} {kn : Nat → Int32} {lo : Nat → Int32} {pa : Nat → Int32} {pc : Int32} {hu : Int32} {sl : Int32} (C0 : zC p s0 m args c meth cc nL own D cy A) (hP : zP D K ad g A H) (hS : va_S A s0.heap H locs) (h : isC cy K ad g n kn lo pa pc hu sl) (hFr : zFr P g0 g) (hp : P (n + 2)) {i9 : Int32} {v9 : Int32} {j9 : Nat} (hi : zIx i9 6 j9) (hdg : decode cc pc9 = .ok (.iastore, 1))
    (kk : ∀ (g1 : Nat → va_E) (H1 : Heap) (locs1 : List Loc), zP D K ad g1 A H1 → va_S A s0.heap H1 locs1 → isC cy K ad g1 n kn (upd lo j9 v9) pa pc hu sl → zFr P g0 g1 → zFr (zOne (n + 2)) g g1 → W p l e R s0 m args below meth c H1 locs1 cells slots Q (F0 m (pc9 + 1) ls rest)) : W p l e R s0 m args below meth c H locs cells slots Q (F0 m pc9 ls (.int v9 :: .int i9 :: .ref (ad (n + 2)) :: rest)) := by
  have hs := h.1
  refine z_iast C0 hP hS h.n2 h.a_lo hi hdg (fun H1 locs1 h1 h2 => ?_)
  exact kk _ H1 locs1 h1 h2 ⟨h.1, (va_up_ne _ _ (by omega)).trans h.o, (va_up_ne _ _ (by omega)).trans h.a_kn, va_up_self _ _ _, (va_up_ne _ _ (by omega)).trans h.a_pa⟩ (hFr.up hp) (zFr.up zFr.rf rfl)
theorem zp_C_pa {p : Program} {l : Launch} {e : Env} {R : Room} {s0 : State} {m : MethodId} {args : Array Value} {below : List Frame} {meth : Method} {c : Code} {H : Heap} {locs : List Loc} {cells slots : Nat} {Q : State → Prop} {D : va_G} {cy : Nat → ClassId} {K : Nat} {ad : Nat → Nat} {g g0 : Nat → va_E} {P : Nat → Prop} {A : Nat → Prop} {cc : ByteArray} {own : String} {nL pc9 : Nat} {ls : Array Slot} {rest : List Value} {n : Nat} {kn : Nat → Int32} {lo : Nat → Int32} {pa : Nat → Int32} {pc : Int32} {hu : Int32} {sl : Int32} (C0 : zC p s0 m args c meth cc nL own D cy A) (hP : zP D K ad g A H) (hS : va_S A s0.heap H locs) (h : isC cy K ad g n kn lo pa pc hu sl) (hFr : zFr P g0 g) (hp : P (n + 3)) {i9 : Int32} {v9 : Int32} {j9 : Nat} (hi : zIx i9 16 j9) (hdg : decode cc pc9 = .ok (.iastore, 1))
    (kk : ∀ (g1 : Nat → va_E) (H1 : Heap) (locs1 : List Loc), zP D K ad g1 A H1 → va_S A s0.heap H1 locs1 → isC cy K ad g1 n kn lo (upd pa j9 v9) pc hu sl → zFr P g0 g1 → zFr (zOne (n + 3)) g g1 → W p l e R s0 m args below meth c H1 locs1 cells slots Q (F0 m (pc9 + 1) ls rest)) : W p l e R s0 m args below meth c H locs cells slots Q (F0 m pc9 ls (.int v9 :: .int i9 :: .ref (ad (n + 3)) :: rest)) := by
  have hs := h.1
  refine z_iast C0 hP hS h.n3 h.a_pa hi hdg (fun H1 locs1 h1 h2 => ?_)
  exact kk _ H1 locs1 h1 h2 ⟨h.1, (va_up_ne _ _ (by omega)).trans h.o, (va_up_ne _ _ (by omega)).trans h.a_kn, (va_up_ne _ _ (by omega)).trans h.a_lo, va_up_self _ _ _⟩ (hFr.up hp) (zFr.up zFr.rf rfl)
def isG (cy : Nat → ClassId) (K : Nat) (ad : Nat → Nat) (g : Nat → va_E) (n : Nat) (rw : Nat → Option Nat) (ro : Int32) (kt : Int32) (lt : Int32) (sl : Int32) (go : Int32) (re : Int32) : Prop := n + 2 ≤ K ∧ g n = .inr (1, [.ref (ad (n + 1)), .int ro, .int kt, .int lt, .int sl, .int go, .int re]) ∧ g (n + 1) = .inl (cy 3, 7, .inr (.inr (.inr (.inr rw))))
theorem isG.n0 {cy : Nat → ClassId} {K : Nat} {ad : Nat → Nat} {g : Nat → va_E} {n : Nat} {rw : Nat → Option Nat} {ro : Int32} {kt : Int32} {lt : Int32} {sl : Int32} {go : Int32} {re : Int32} (h : isG cy K ad g n rw ro kt lt sl go re) : n < K := by have h1 := h.1; omega
theorem isG.n1 {cy : Nat → ClassId} {K : Nat} {ad : Nat → Nat} {g : Nat → va_E} {n : Nat} {rw : Nat → Option Nat} {ro : Int32} {kt : Int32} {lt : Int32} {sl : Int32} {go : Int32} {re : Int32} (h : isG cy K ad g n rw ro kt lt sl go re) : (n + 1) < K := by have h1 := h.1; omega
theorem isG.o {cy : Nat → ClassId} {K : Nat} {ad : Nat → Nat} {g : Nat → va_E} {n : Nat} {rw : Nat → Option Nat} {ro : Int32} {kt : Int32} {lt : Int32} {sl : Int32} {go : Int32} {re : Int32} (h : isG cy K ad g n rw ro kt lt sl go re) : g n = .inr (1, [.ref (ad (n + 1)), .int ro, .int kt, .int lt, .int sl, .int go, .int re]) := h.2.1
theorem isG.a_rw {cy : Nat → ClassId} {K : Nat} {ad : Nat → Nat} {g : Nat → va_E} {n : Nat} {rw : Nat → Option Nat} {ro : Int32} {kt : Int32} {lt : Int32} {sl : Int32} {go : Int32} {re : Int32} (h : isG cy K ad g n rw ro kt lt sl go re) : g (n + 1) = .inl (cy 3, 7, .inr (.inr (.inr (.inr rw)))) := h.2.2
theorem isG.kept {cy : Nat → ClassId} {K : Nat} {ad : Nat → Nat} {g : Nat → va_E} {n : Nat} {rw : Nat → Option Nat} {ro : Int32} {kt : Int32} {lt : Int32} {sl : Int32} {go : Int32} {re : Int32} (h : isG cy K ad g n rw ro kt lt sl go re) {P : Nat → Prop} {g1 : Nat → va_E} (hf : zFr P g g1) (hd : ¬ P n ∧ ¬ P (n + 1)) : isG cy K ad g1 n rw ro kt lt sl go re := ⟨h.1, (hf _ hd.1).trans h.o, (hf _ hd.2).trans h.a_rw⟩
theorem zp_G_ro {p : Program} {l : Launch} {e : Env} {R : Room} {s0 : State} {m : MethodId} {args : Array Value} {below : List Frame} {meth : Method} {c : Code} {H : Heap} {locs : List Loc} {cells slots : Nat} {Q : State → Prop} {D : va_G} {cy : Nat → ClassId} {K : Nat} {ad : Nat → Nat} {g g0 : Nat → va_E} {P : Nat → Prop} {A : Nat → Prop} {cc : ByteArray} {own : String} {nL pc9 : Nat} {ls : Array Slot} {rest : List Value} {n : Nat} {rw : Nat → Option Nat} {ro : Int32} {kt : Int32} {lt : Int32} {sl : Int32} {go : Int32} {re : Int32} (C0 : zC p s0 m args c meth cc nL own D cy A) (hP : zP D K ad g A H) (hS : va_S A s0.heap H locs) (h : isG cy K ad g n rw ro kt lt sl go re) (hFr : zFr P g0 g) (hp : P n) {index : Nat} (hF : zFp own index 1 1 .int false) {v9 : Int32} (hdg : decode cc pc9 = .ok (.putfield index, 3))
    (kk : ∀ (g1 : Nat → va_E) (H1 : Heap) (locs1 : List Loc), zP D K ad g1 A H1 → va_S A s0.heap H1 locs1 → isG cy K ad g1 n rw v9 kt lt sl go re → zFr P g0 g1 → zFr (zOne n) g g1 → W p l e R s0 m args below meth c H1 locs1 cells slots Q (F0 m (pc9 + 3) ls rest)) : W p l e R s0 m args below meth c H locs cells slots Q (F0 m pc9 ls (.int v9 :: .ref (ad n) :: rest)) := by
  have hs := h.1
  refine z_put C0 hP hS h.n0 h.o hF rfl rfl (Nat.le_of_ble_eq_true rfl) hdg (fun H1 locs1 h1 h2 => ?_)
  exact kk _ H1 locs1 h1 h2 ⟨h.1, va_up_self _ _ _, (va_up_ne _ _ (by omega)).trans h.a_rw⟩ (hFr.up hp) (zFr.up zFr.rf rfl)
theorem zp_G_kt {p : Program} {l : Launch} {e : Env} {R : Room} {s0 : State} {m : MethodId} {args : Array Value} {below : List Frame} {meth : Method} {c : Code} {H : Heap} {locs : List Loc} {cells slots : Nat} {Q : State → Prop} {D : va_G} {cy : Nat → ClassId} {K : Nat} {ad : Nat → Nat} {g g0 : Nat → va_E} {P : Nat → Prop} {A : Nat → Prop} {cc : ByteArray} {own : String} {nL pc9 : Nat} {ls : Array Slot} {rest : List Value} {n : Nat} {rw : Nat → Option Nat} {ro : Int32} {kt : Int32} {lt : Int32} {sl : Int32} {go : Int32} {re : Int32} (C0 : zC p s0 m args c meth cc nL own D cy A) (hP : zP D K ad g A H) (hS : va_S A s0.heap H locs) (h : isG cy K ad g n rw ro kt lt sl go re) (hFr : zFr P g0 g) (hp : P n) {index : Nat} (hF : zFp own index 1 2 .int false) {v9 : Int32} (hdg : decode cc pc9 = .ok (.putfield index, 3))
    (kk : ∀ (g1 : Nat → va_E) (H1 : Heap) (locs1 : List Loc), zP D K ad g1 A H1 → va_S A s0.heap H1 locs1 → isG cy K ad g1 n rw ro v9 lt sl go re → zFr P g0 g1 → zFr (zOne n) g g1 → W p l e R s0 m args below meth c H1 locs1 cells slots Q (F0 m (pc9 + 3) ls rest)) : W p l e R s0 m args below meth c H locs cells slots Q (F0 m pc9 ls (.int v9 :: .ref (ad n) :: rest)) := by
  have hs := h.1
  refine z_put C0 hP hS h.n0 h.o hF rfl rfl (Nat.le_of_ble_eq_true rfl) hdg (fun H1 locs1 h1 h2 => ?_)
  exact kk _ H1 locs1 h1 h2 ⟨h.1, va_up_self _ _ _, (va_up_ne _ _ (by omega)).trans h.a_rw⟩ (hFr.up hp) (zFr.up zFr.rf rfl)
theorem zp_G_lt {p : Program} {l : Launch} {e : Env} {R : Room} {s0 : State} {m : MethodId} {args : Array Value} {below : List Frame} {meth : Method} {c : Code} {H : Heap} {locs : List Loc} {cells slots : Nat} {Q : State → Prop} {D : va_G} {cy : Nat → ClassId} {K : Nat} {ad : Nat → Nat} {g g0 : Nat → va_E} {P : Nat → Prop} {A : Nat → Prop} {cc : ByteArray} {own : String} {nL pc9 : Nat} {ls : Array Slot} {rest : List Value} {n : Nat} {rw : Nat → Option Nat} {ro : Int32} {kt : Int32} {lt : Int32} {sl : Int32} {go : Int32} {re : Int32} (C0 : zC p s0 m args c meth cc nL own D cy A) (hP : zP D K ad g A H) (hS : va_S A s0.heap H locs) (h : isG cy K ad g n rw ro kt lt sl go re) (hFr : zFr P g0 g) (hp : P n) {index : Nat} (hF : zFp own index 1 3 .int false) {v9 : Int32} (hdg : decode cc pc9 = .ok (.putfield index, 3))
    (kk : ∀ (g1 : Nat → va_E) (H1 : Heap) (locs1 : List Loc), zP D K ad g1 A H1 → va_S A s0.heap H1 locs1 → isG cy K ad g1 n rw ro kt v9 sl go re → zFr P g0 g1 → zFr (zOne n) g g1 → W p l e R s0 m args below meth c H1 locs1 cells slots Q (F0 m (pc9 + 3) ls rest)) : W p l e R s0 m args below meth c H locs cells slots Q (F0 m pc9 ls (.int v9 :: .ref (ad n) :: rest)) := by
  have hs := h.1
  refine z_put C0 hP hS h.n0 h.o hF rfl rfl (Nat.le_of_ble_eq_true rfl) hdg (fun H1 locs1 h1 h2 => ?_)
  exact kk _ H1 locs1 h1 h2 ⟨h.1, va_up_self _ _ _, (va_up_ne _ _ (by omega)).trans h.a_rw⟩ (hFr.up hp) (zFr.up zFr.rf rfl)
theorem zp_G_sl {p : Program} {l : Launch} {e : Env} {R : Room} {s0 : State} {m : MethodId} {args : Array Value} {below : List Frame} {meth : Method} {c : Code} {H : Heap} {locs : List Loc} {cells slots : Nat} {Q : State → Prop} {D : va_G} {cy : Nat → ClassId} {K : Nat} {ad : Nat → Nat} {g g0 : Nat → va_E} {P : Nat → Prop} {A : Nat → Prop} {cc : ByteArray} {own : String} {nL pc9 : Nat} {ls : Array Slot} {rest : List Value} {n : Nat} {rw : Nat → Option Nat} {ro : Int32} {kt : Int32} {lt : Int32} {sl : Int32} {go : Int32} {re : Int32} (C0 : zC p s0 m args c meth cc nL own D cy A) (hP : zP D K ad g A H) (hS : va_S A s0.heap H locs) (h : isG cy K ad g n rw ro kt lt sl go re) (hFr : zFr P g0 g) (hp : P n) {index : Nat} (hF : zFp own index 1 4 .int false) {v9 : Int32} (hdg : decode cc pc9 = .ok (.putfield index, 3))
    (kk : ∀ (g1 : Nat → va_E) (H1 : Heap) (locs1 : List Loc), zP D K ad g1 A H1 → va_S A s0.heap H1 locs1 → isG cy K ad g1 n rw ro kt lt v9 go re → zFr P g0 g1 → zFr (zOne n) g g1 → W p l e R s0 m args below meth c H1 locs1 cells slots Q (F0 m (pc9 + 3) ls rest)) : W p l e R s0 m args below meth c H locs cells slots Q (F0 m pc9 ls (.int v9 :: .ref (ad n) :: rest)) := by
  have hs := h.1
  refine z_put C0 hP hS h.n0 h.o hF rfl rfl (Nat.le_of_ble_eq_true rfl) hdg (fun H1 locs1 h1 h2 => ?_)
  exact kk _ H1 locs1 h1 h2 ⟨h.1, va_up_self _ _ _, (va_up_ne _ _ (by omega)).trans h.a_rw⟩ (hFr.up hp) (zFr.up zFr.rf rfl)
theorem zp_G_go {p : Program} {l : Launch} {e : Env} {R : Room} {s0 : State} {m : MethodId} {args : Array Value} {below : List Frame} {meth : Method} {c : Code} {H : Heap} {locs : List Loc} {cells slots : Nat} {Q : State → Prop} {D : va_G} {cy : Nat → ClassId} {K : Nat} {ad : Nat → Nat} {g g0 : Nat → va_E} {P : Nat → Prop} {A : Nat → Prop} {cc : ByteArray} {own : String} {nL pc9 : Nat} {ls : Array Slot} {rest : List Value} {n : Nat} {rw : Nat → Option Nat} {ro : Int32} {kt : Int32} {lt : Int32} {sl : Int32} {go : Int32} {re : Int32} (C0 : zC p s0 m args c meth cc nL own D cy A) (hP : zP D K ad g A H) (hS : va_S A s0.heap H locs) (h : isG cy K ad g n rw ro kt lt sl go re) (hFr : zFr P g0 g) (hp : P n) {index : Nat} (hF : zFp own index 1 5 .int false) {v9 : Int32} (hdg : decode cc pc9 = .ok (.putfield index, 3))
    (kk : ∀ (g1 : Nat → va_E) (H1 : Heap) (locs1 : List Loc), zP D K ad g1 A H1 → va_S A s0.heap H1 locs1 → isG cy K ad g1 n rw ro kt lt sl v9 re → zFr P g0 g1 → zFr (zOne n) g g1 → W p l e R s0 m args below meth c H1 locs1 cells slots Q (F0 m (pc9 + 3) ls rest)) : W p l e R s0 m args below meth c H locs cells slots Q (F0 m pc9 ls (.int v9 :: .ref (ad n) :: rest)) := by
  have hs := h.1
  refine z_put C0 hP hS h.n0 h.o hF rfl rfl (Nat.le_of_ble_eq_true rfl) hdg (fun H1 locs1 h1 h2 => ?_)
  exact kk _ H1 locs1 h1 h2 ⟨h.1, va_up_self _ _ _, (va_up_ne _ _ (by omega)).trans h.a_rw⟩ (hFr.up hp) (zFr.up zFr.rf rfl)
theorem zp_G_re {p : Program} {l : Launch} {e : Env} {R : Room} {s0 : State} {m : MethodId} {args : Array Value} {below : List Frame} {meth : Method} {c : Code} {H : Heap} {locs : List Loc} {cells slots : Nat} {Q : State → Prop} {D : va_G} {cy : Nat → ClassId} {K : Nat} {ad : Nat → Nat} {g g0 : Nat → va_E} {P : Nat → Prop} {A : Nat → Prop} {cc : ByteArray} {own : String} {nL pc9 : Nat} {ls : Array Slot} {rest : List Value} {n : Nat} {rw : Nat → Option Nat} {ro : Int32} {kt : Int32} {lt : Int32} {sl : Int32} {go : Int32} {re : Int32} (C0 : zC p s0 m args c meth cc nL own D cy A) (hP : zP D K ad g A H) (hS : va_S A s0.heap H locs) (h : isG cy K ad g n rw ro kt lt sl go re) (hFr : zFr P g0 g) (hp : P n) {index : Nat} (hF : zFp own index 1 6 .int false) {v9 : Int32} (hdg : decode cc pc9 = .ok (.putfield index, 3))
    (kk : ∀ (g1 : Nat → va_E) (H1 : Heap) (locs1 : List Loc), zP D K ad g1 A H1 → va_S A s0.heap H1 locs1 → isG cy K ad g1 n rw ro kt lt sl go v9 → zFr P g0 g1 → zFr (zOne n) g g1 → W p l e R s0 m args below meth c H1 locs1 cells slots Q (F0 m (pc9 + 3) ls rest)) : W p l e R s0 m args below meth c H locs cells slots Q (F0 m pc9 ls (.int v9 :: .ref (ad n) :: rest)) := by
  have hs := h.1
  refine z_put C0 hP hS h.n0 h.o hF rfl rfl (Nat.le_of_ble_eq_true rfl) hdg (fun H1 locs1 h1 h2 => ?_)
  exact kk _ H1 locs1 h1 h2 ⟨h.1, va_up_self _ _ _, (va_up_ne _ _ (by omega)).trans h.a_rw⟩ (hFr.up hp) (zFr.up zFr.rf rfl)
theorem zp_G_rw {p : Program} {l : Launch} {e : Env} {R : Room} {s0 : State} {m : MethodId} {args : Array Value} {below : List Frame} {meth : Method} {c : Code} {H : Heap} {locs : List Loc} {cells slots : Nat} {Q : State → Prop} {D : va_G} {cy : Nat → ClassId} {K : Nat} {ad : Nat → Nat} {g g0 : Nat → va_E} {P : Nat → Prop} {A : Nat → Prop} {cc : ByteArray} {own : String} {nL pc9 : Nat} {ls : Array Slot} {rest : List Value} {n : Nat} {rw : Nat → Option Nat} {ro : Int32} {kt : Int32} {lt : Int32} {sl : Int32} {go : Int32} {re : Int32} (C0 : zC p s0 m args c meth cc nL own D cy A) (hP : zP D K ad g A H) (hS : va_S A s0.heap H locs) (h : isG cy K ad g n rw ro kt lt sl go re) (hFr : zFr P g0 g) (hp : P (n + 1)) {i9 : Int32} {j9 b9 ci9 : Nat} {r9 : vw_C} {vs9 : List Value} (hc9 : vwCl[ci9]? = some r9) (ht9 : (zT cy)[3]? = some (cy 3, .object r9.1)) (hb9 : b9 < K) (he9 : g b9 = .inr (ci9, vs9)) (hi : zIx i9 7 j9) (hdg : decode cc pc9 = .ok (.aastore, 1))
    (kk : ∀ (g1 : Nat → va_E) (H1 : Heap) (locs1 : List Loc), zP D K ad g1 A H1 → va_S A s0.heap H1 locs1 → isG cy K ad g1 n (va_up rw j9 (some (ad b9))) ro kt lt sl go re → zFr P g0 g1 → zFr (zOne (n + 1)) g g1 → W p l e R s0 m args below meth c H1 locs1 cells slots Q (F0 m (pc9 + 1) ls rest)) : W p l e R s0 m args below meth c H locs cells slots Q (F0 m pc9 ls (.ref (ad b9) :: .int i9 :: .ref (ad (n + 1)) :: rest)) := by
  have hs := h.1
  refine z_aast C0 hP hS h.n1 h.a_rw hc9 ht9 hb9 he9 hi hdg (fun H1 locs1 h1 h2 => ?_)
  exact kk _ H1 locs1 h1 h2 ⟨h.1, (va_up_ne _ _ (by omega)).trans h.o, va_up_self _ _ _⟩ (hFr.up hp) (zFr.up zFr.rf rfl)
def isY (cy : Nat → ClassId) (K : Nat) (ad : Nat → Nat) (g : Nat → va_E) (n : Nat) (rw : Nat → Option Nat) (nx : Int32) (sz : Int32) : Prop := n + 2 ≤ K ∧ g n = .inr (2, [.ref (ad (n + 1)), .int nx, .int sz]) ∧ g (n + 1) = .inl (cy 4, 6, .inr (.inr (.inr (.inr rw))))
theorem isY.n0 {cy : Nat → ClassId} {K : Nat} {ad : Nat → Nat} {g : Nat → va_E} {n : Nat} {rw : Nat → Option Nat} {nx : Int32} {sz : Int32} (h : isY cy K ad g n rw nx sz) : n < K := by have h1 := h.1; omega
theorem isY.n1 {cy : Nat → ClassId} {K : Nat} {ad : Nat → Nat} {g : Nat → va_E} {n : Nat} {rw : Nat → Option Nat} {nx : Int32} {sz : Int32} (h : isY cy K ad g n rw nx sz) : (n + 1) < K := by have h1 := h.1; omega
theorem isY.o {cy : Nat → ClassId} {K : Nat} {ad : Nat → Nat} {g : Nat → va_E} {n : Nat} {rw : Nat → Option Nat} {nx : Int32} {sz : Int32} (h : isY cy K ad g n rw nx sz) : g n = .inr (2, [.ref (ad (n + 1)), .int nx, .int sz]) := h.2.1
theorem isY.a_rw {cy : Nat → ClassId} {K : Nat} {ad : Nat → Nat} {g : Nat → va_E} {n : Nat} {rw : Nat → Option Nat} {nx : Int32} {sz : Int32} (h : isY cy K ad g n rw nx sz) : g (n + 1) = .inl (cy 4, 6, .inr (.inr (.inr (.inr rw)))) := h.2.2
theorem isY.kept {cy : Nat → ClassId} {K : Nat} {ad : Nat → Nat} {g : Nat → va_E} {n : Nat} {rw : Nat → Option Nat} {nx : Int32} {sz : Int32} (h : isY cy K ad g n rw nx sz) {P : Nat → Prop} {g1 : Nat → va_E} (hf : zFr P g g1) (hd : ¬ P n ∧ ¬ P (n + 1)) : isY cy K ad g1 n rw nx sz := ⟨h.1, (hf _ hd.1).trans h.o, (hf _ hd.2).trans h.a_rw⟩
theorem zp_Y_nx {p : Program} {l : Launch} {e : Env} {R : Room} {s0 : State} {m : MethodId} {args : Array Value} {below : List Frame} {meth : Method} {c : Code} {H : Heap} {locs : List Loc} {cells slots : Nat} {Q : State → Prop} {D : va_G} {cy : Nat → ClassId} {K : Nat} {ad : Nat → Nat} {g g0 : Nat → va_E} {P : Nat → Prop} {A : Nat → Prop} {cc : ByteArray} {own : String} {nL pc9 : Nat} {ls : Array Slot} {rest : List Value} {n : Nat} {rw : Nat → Option Nat} {nx : Int32} {sz : Int32} (C0 : zC p s0 m args c meth cc nL own D cy A) (hP : zP D K ad g A H) (hS : va_S A s0.heap H locs) (h : isY cy K ad g n rw nx sz) (hFr : zFr P g0 g) (hp : P n) {index : Nat} (hF : zFp own index 2 1 .int false) {v9 : Int32} (hdg : decode cc pc9 = .ok (.putfield index, 3))
    (kk : ∀ (g1 : Nat → va_E) (H1 : Heap) (locs1 : List Loc), zP D K ad g1 A H1 → va_S A s0.heap H1 locs1 → isY cy K ad g1 n rw v9 sz → zFr P g0 g1 → zFr (zOne n) g g1 → W p l e R s0 m args below meth c H1 locs1 cells slots Q (F0 m (pc9 + 3) ls rest)) : W p l e R s0 m args below meth c H locs cells slots Q (F0 m pc9 ls (.int v9 :: .ref (ad n) :: rest)) := by
  have hs := h.1
  refine z_put C0 hP hS h.n0 h.o hF rfl rfl (Nat.le_of_ble_eq_true rfl) hdg (fun H1 locs1 h1 h2 => ?_)
  exact kk _ H1 locs1 h1 h2 ⟨h.1, va_up_self _ _ _, (va_up_ne _ _ (by omega)).trans h.a_rw⟩ (hFr.up hp) (zFr.up zFr.rf rfl)
theorem zp_Y_sz {p : Program} {l : Launch} {e : Env} {R : Room} {s0 : State} {m : MethodId} {args : Array Value} {below : List Frame} {meth : Method} {c : Code} {H : Heap} {locs : List Loc} {cells slots : Nat} {Q : State → Prop} {D : va_G} {cy : Nat → ClassId} {K : Nat} {ad : Nat → Nat} {g g0 : Nat → va_E} {P : Nat → Prop} {A : Nat → Prop} {cc : ByteArray} {own : String} {nL pc9 : Nat} {ls : Array Slot} {rest : List Value} {n : Nat} {rw : Nat → Option Nat} {nx : Int32} {sz : Int32} (C0 : zC p s0 m args c meth cc nL own D cy A) (hP : zP D K ad g A H) (hS : va_S A s0.heap H locs) (h : isY cy K ad g n rw nx sz) (hFr : zFr P g0 g) (hp : P n) {index : Nat} (hF : zFp own index 2 2 .int false) {v9 : Int32} (hdg : decode cc pc9 = .ok (.putfield index, 3))
    (kk : ∀ (g1 : Nat → va_E) (H1 : Heap) (locs1 : List Loc), zP D K ad g1 A H1 → va_S A s0.heap H1 locs1 → isY cy K ad g1 n rw nx v9 → zFr P g0 g1 → zFr (zOne n) g g1 → W p l e R s0 m args below meth c H1 locs1 cells slots Q (F0 m (pc9 + 3) ls rest)) : W p l e R s0 m args below meth c H locs cells slots Q (F0 m pc9 ls (.int v9 :: .ref (ad n) :: rest)) := by
  have hs := h.1
  refine z_put C0 hP hS h.n0 h.o hF rfl rfl (Nat.le_of_ble_eq_true rfl) hdg (fun H1 locs1 h1 h2 => ?_)
  exact kk _ H1 locs1 h1 h2 ⟨h.1, va_up_self _ _ _, (va_up_ne _ _ (by omega)).trans h.a_rw⟩ (hFr.up hp) (zFr.up zFr.rf rfl)
theorem zp_Y_rw {p : Program} {l : Launch} {e : Env} {R : Room} {s0 : State} {m : MethodId} {args : Array Value} {below : List Frame} {meth : Method} {c : Code} {H : Heap} {locs : List Loc} {cells slots : Nat} {Q : State → Prop} {D : va_G} {cy : Nat → ClassId} {K : Nat} {ad : Nat → Nat} {g g0 : Nat → va_E} {P : Nat → Prop} {A : Nat → Prop} {cc : ByteArray} {own : String} {nL pc9 : Nat} {ls : Array Slot} {rest : List Value} {n : Nat} {rw : Nat → Option Nat} {nx : Int32} {sz : Int32} (C0 : zC p s0 m args c meth cc nL own D cy A) (hP : zP D K ad g A H) (hS : va_S A s0.heap H locs) (h : isY cy K ad g n rw nx sz) (hFr : zFr P g0 g) (hp : P (n + 1)) {i9 : Int32} {j9 b9 ci9 : Nat} {r9 : vw_C} {vs9 : List Value} (hc9 : vwCl[ci9]? = some r9) (ht9 : (zT cy)[4]? = some (cy 4, .object r9.1)) (hb9 : b9 < K) (he9 : g b9 = .inr (ci9, vs9)) (hi : zIx i9 6 j9) (hdg : decode cc pc9 = .ok (.aastore, 1))
    (kk : ∀ (g1 : Nat → va_E) (H1 : Heap) (locs1 : List Loc), zP D K ad g1 A H1 → va_S A s0.heap H1 locs1 → isY cy K ad g1 n (va_up rw j9 (some (ad b9))) nx sz → zFr P g0 g1 → zFr (zOne (n + 1)) g g1 → W p l e R s0 m args below meth c H1 locs1 cells slots Q (F0 m (pc9 + 1) ls rest)) : W p l e R s0 m args below meth c H locs cells slots Q (F0 m pc9 ls (.ref (ad b9) :: .int i9 :: .ref (ad (n + 1)) :: rest)) := by
  have hs := h.1
  refine z_aast C0 hP hS h.n1 h.a_rw hc9 ht9 hb9 he9 hi hdg (fun H1 locs1 h1 h2 => ?_)
  exact kk _ H1 locs1 h1 h2 ⟨h.1, (va_up_ne _ _ (by omega)).trans h.o, va_up_self _ _ _⟩ (hFr.up hp) (zFr.up zFr.rf rfl)
def isR (cy : Nat → ClassId) (K : Nat) (ad : Nat → Nat) (g : Nat → va_E) (n : Nat) (st : Int32) (di : Int32) (co : Int32) (ki : Int32) (va : Int32) : Prop := n + 1 ≤ K ∧ g n = .inr (3, [.int st, .int di, .int co, .int ki, .int va])
theorem isR.n0 {cy : Nat → ClassId} {K : Nat} {ad : Nat → Nat} {g : Nat → va_E} {n : Nat} {st : Int32} {di : Int32} {co : Int32} {ki : Int32} {va : Int32} (h : isR cy K ad g n st di co ki va) : n < K := by have h1 := h.1; omega
theorem isR.o {cy : Nat → ClassId} {K : Nat} {ad : Nat → Nat} {g : Nat → va_E} {n : Nat} {st : Int32} {di : Int32} {co : Int32} {ki : Int32} {va : Int32} (h : isR cy K ad g n st di co ki va) : g n = .inr (3, [.int st, .int di, .int co, .int ki, .int va]) := h.2
theorem isR.kept {cy : Nat → ClassId} {K : Nat} {ad : Nat → Nat} {g : Nat → va_E} {n : Nat} {st : Int32} {di : Int32} {co : Int32} {ki : Int32} {va : Int32} (h : isR cy K ad g n st di co ki va) {P : Nat → Prop} {g1 : Nat → va_E} (hf : zFr P g g1) (hd : ¬ P n) : isR cy K ad g1 n st di co ki va := ⟨h.1, (hf _ hd).trans h.o⟩
theorem zp_R_st {p : Program} {l : Launch} {e : Env} {R : Room} {s0 : State} {m : MethodId} {args : Array Value} {below : List Frame} {meth : Method} {c : Code} {H : Heap} {locs : List Loc} {cells slots : Nat} {Q : State → Prop} {D : va_G} {cy : Nat → ClassId} {K : Nat} {ad : Nat → Nat} {g g0 : Nat → va_E} {P : Nat → Prop} {A : Nat → Prop} {cc : ByteArray} {own : String} {nL pc9 : Nat} {ls : Array Slot} {rest : List Value} {n : Nat} {st : Int32} {di : Int32} {co : Int32} {ki : Int32} {va : Int32} (C0 : zC p s0 m args c meth cc nL own D cy A) (hP : zP D K ad g A H) (hS : va_S A s0.heap H locs) (h : isR cy K ad g n st di co ki va) (hFr : zFr P g0 g) (hp : P n) {index : Nat} (hF : zFp own index 3 0 .int false) {v9 : Int32} (hdg : decode cc pc9 = .ok (.putfield index, 3))
    (kk : ∀ (g1 : Nat → va_E) (H1 : Heap) (locs1 : List Loc), zP D K ad g1 A H1 → va_S A s0.heap H1 locs1 → isR cy K ad g1 n v9 di co ki va → zFr P g0 g1 → zFr (zOne n) g g1 → W p l e R s0 m args below meth c H1 locs1 cells slots Q (F0 m (pc9 + 3) ls rest)) : W p l e R s0 m args below meth c H locs cells slots Q (F0 m pc9 ls (.int v9 :: .ref (ad n) :: rest)) := by
  have hs := h.1
  refine z_put C0 hP hS h.n0 h.o hF rfl rfl (Nat.le_of_ble_eq_true rfl) hdg (fun H1 locs1 h1 h2 => ?_)
  exact kk _ H1 locs1 h1 h2 ⟨h.1, va_up_self _ _ _⟩ (hFr.up hp) (zFr.up zFr.rf rfl)
theorem zp_R_di {p : Program} {l : Launch} {e : Env} {R : Room} {s0 : State} {m : MethodId} {args : Array Value} {below : List Frame} {meth : Method} {c : Code} {H : Heap} {locs : List Loc} {cells slots : Nat} {Q : State → Prop} {D : va_G} {cy : Nat → ClassId} {K : Nat} {ad : Nat → Nat} {g g0 : Nat → va_E} {P : Nat → Prop} {A : Nat → Prop} {cc : ByteArray} {own : String} {nL pc9 : Nat} {ls : Array Slot} {rest : List Value} {n : Nat} {st : Int32} {di : Int32} {co : Int32} {ki : Int32} {va : Int32} (C0 : zC p s0 m args c meth cc nL own D cy A) (hP : zP D K ad g A H) (hS : va_S A s0.heap H locs) (h : isR cy K ad g n st di co ki va) (hFr : zFr P g0 g) (hp : P n) {index : Nat} (hF : zFp own index 3 1 .int false) {v9 : Int32} (hdg : decode cc pc9 = .ok (.putfield index, 3))
    (kk : ∀ (g1 : Nat → va_E) (H1 : Heap) (locs1 : List Loc), zP D K ad g1 A H1 → va_S A s0.heap H1 locs1 → isR cy K ad g1 n st v9 co ki va → zFr P g0 g1 → zFr (zOne n) g g1 → W p l e R s0 m args below meth c H1 locs1 cells slots Q (F0 m (pc9 + 3) ls rest)) : W p l e R s0 m args below meth c H locs cells slots Q (F0 m pc9 ls (.int v9 :: .ref (ad n) :: rest)) := by
  have hs := h.1
  refine z_put C0 hP hS h.n0 h.o hF rfl rfl (Nat.le_of_ble_eq_true rfl) hdg (fun H1 locs1 h1 h2 => ?_)
  exact kk _ H1 locs1 h1 h2 ⟨h.1, va_up_self _ _ _⟩ (hFr.up hp) (zFr.up zFr.rf rfl)
theorem zp_R_co {p : Program} {l : Launch} {e : Env} {R : Room} {s0 : State} {m : MethodId} {args : Array Value} {below : List Frame} {meth : Method} {c : Code} {H : Heap} {locs : List Loc} {cells slots : Nat} {Q : State → Prop} {D : va_G} {cy : Nat → ClassId} {K : Nat} {ad : Nat → Nat} {g g0 : Nat → va_E} {P : Nat → Prop} {A : Nat → Prop} {cc : ByteArray} {own : String} {nL pc9 : Nat} {ls : Array Slot} {rest : List Value} {n : Nat} {st : Int32} {di : Int32} {co : Int32} {ki : Int32} {va : Int32} (C0 : zC p s0 m args c meth cc nL own D cy A) (hP : zP D K ad g A H) (hS : va_S A s0.heap H locs) (h : isR cy K ad g n st di co ki va) (hFr : zFr P g0 g) (hp : P n) {index : Nat} (hF : zFp own index 3 2 .int false) {v9 : Int32} (hdg : decode cc pc9 = .ok (.putfield index, 3))
    (kk : ∀ (g1 : Nat → va_E) (H1 : Heap) (locs1 : List Loc), zP D K ad g1 A H1 → va_S A s0.heap H1 locs1 → isR cy K ad g1 n st di v9 ki va → zFr P g0 g1 → zFr (zOne n) g g1 → W p l e R s0 m args below meth c H1 locs1 cells slots Q (F0 m (pc9 + 3) ls rest)) : W p l e R s0 m args below meth c H locs cells slots Q (F0 m pc9 ls (.int v9 :: .ref (ad n) :: rest)) := by
  have hs := h.1
  refine z_put C0 hP hS h.n0 h.o hF rfl rfl (Nat.le_of_ble_eq_true rfl) hdg (fun H1 locs1 h1 h2 => ?_)
  exact kk _ H1 locs1 h1 h2 ⟨h.1, va_up_self _ _ _⟩ (hFr.up hp) (zFr.up zFr.rf rfl)
theorem zp_R_ki {p : Program} {l : Launch} {e : Env} {R : Room} {s0 : State} {m : MethodId} {args : Array Value} {below : List Frame} {meth : Method} {c : Code} {H : Heap} {locs : List Loc} {cells slots : Nat} {Q : State → Prop} {D : va_G} {cy : Nat → ClassId} {K : Nat} {ad : Nat → Nat} {g g0 : Nat → va_E} {P : Nat → Prop} {A : Nat → Prop} {cc : ByteArray} {own : String} {nL pc9 : Nat} {ls : Array Slot} {rest : List Value} {n : Nat} {st : Int32} {di : Int32} {co : Int32} {ki : Int32} {va : Int32} (C0 : zC p s0 m args c meth cc nL own D cy A) (hP : zP D K ad g A H) (hS : va_S A s0.heap H locs) (h : isR cy K ad g n st di co ki va) (hFr : zFr P g0 g) (hp : P n) {index : Nat} (hF : zFp own index 3 3 .char false) {v9 : Int32} (hv9 : narrow .char (.int v9) = .int v9) (hv8 : fits .char (.int v9) = true) (hdg : decode cc pc9 = .ok (.putfield index, 3))
    (kk : ∀ (g1 : Nat → va_E) (H1 : Heap) (locs1 : List Loc), zP D K ad g1 A H1 → va_S A s0.heap H1 locs1 → isR cy K ad g1 n st di co v9 va → zFr P g0 g1 → zFr (zOne n) g g1 → W p l e R s0 m args below meth c H1 locs1 cells slots Q (F0 m (pc9 + 3) ls rest)) : W p l e R s0 m args below meth c H locs cells slots Q (F0 m pc9 ls (.int v9 :: .ref (ad n) :: rest)) := by
  have hs := h.1
  refine z_put C0 hP hS h.n0 h.o hF hv9 hv8 (Nat.le_of_ble_eq_true rfl) hdg (fun H1 locs1 h1 h2 => ?_)
  exact kk _ H1 locs1 h1 h2 ⟨h.1, va_up_self _ _ _⟩ (hFr.up hp) (zFr.up zFr.rf rfl)
theorem zp_R_va {p : Program} {l : Launch} {e : Env} {R : Room} {s0 : State} {m : MethodId} {args : Array Value} {below : List Frame} {meth : Method} {c : Code} {H : Heap} {locs : List Loc} {cells slots : Nat} {Q : State → Prop} {D : va_G} {cy : Nat → ClassId} {K : Nat} {ad : Nat → Nat} {g g0 : Nat → va_E} {P : Nat → Prop} {A : Nat → Prop} {cc : ByteArray} {own : String} {nL pc9 : Nat} {ls : Array Slot} {rest : List Value} {n : Nat} {st : Int32} {di : Int32} {co : Int32} {ki : Int32} {va : Int32} (C0 : zC p s0 m args c meth cc nL own D cy A) (hP : zP D K ad g A H) (hS : va_S A s0.heap H locs) (h : isR cy K ad g n st di co ki va) (hFr : zFr P g0 g) (hp : P n) {index : Nat} (hF : zFp own index 3 4 .int false) {v9 : Int32} (hdg : decode cc pc9 = .ok (.putfield index, 3))
    (kk : ∀ (g1 : Nat → va_E) (H1 : Heap) (locs1 : List Loc), zP D K ad g1 A H1 → va_S A s0.heap H1 locs1 → isR cy K ad g1 n st di co ki v9 → zFr P g0 g1 → zFr (zOne n) g g1 → W p l e R s0 m args below meth c H1 locs1 cells slots Q (F0 m (pc9 + 3) ls rest)) : W p l e R s0 m args below meth c H locs cells slots Q (F0 m pc9 ls (.int v9 :: .ref (ad n) :: rest)) := by
  have hs := h.1
  refine z_put C0 hP hS h.n0 h.o hF rfl rfl (Nat.le_of_ble_eq_true rfl) hdg (fun H1 locs1 h1 h2 => ?_)
  exact kk _ H1 locs1 h1 h2 ⟨h.1, va_up_self _ _ _⟩ (hFr.up hp) (zFr.up zFr.rf rfl)
def isX (cy : Nat → ClassId) (K : Nat) (ad : Nat → Nat) (g : Nat → va_E) (n : Nat) (sn : Nat → Option Nat) (bu : Nat → Int32) (tl : Nat → Int32) (ln : Int32) : Prop := n + 221 ≤ K ∧ g n = .inr (4, [.ref (ad (n + 1)), .ref (ad (n + 31)), .ref (ad (n + 213)), .ref (ad (n + 214)), .int ln, .ref (ad (n + 215)), .ref (ad (n + 216)), .ref (ad (n + 220))]) ∧ g (n + 213) = .inl (cy 4, 2, .inr (.inr (.inr (.inr sn)))) ∧ g (n + 214) = .inl (cy 0, 60, .inl bu) ∧ g (n + 220) = .inl (cy 1, 7, .inl tl)
theorem isX.n0 {cy : Nat → ClassId} {K : Nat} {ad : Nat → Nat} {g : Nat → va_E} {n : Nat} {sn : Nat → Option Nat} {bu : Nat → Int32} {tl : Nat → Int32} {ln : Int32} (h : isX cy K ad g n sn bu tl ln) : n < K := by have h1 := h.1; omega
theorem isX.n213 {cy : Nat → ClassId} {K : Nat} {ad : Nat → Nat} {g : Nat → va_E} {n : Nat} {sn : Nat → Option Nat} {bu : Nat → Int32} {tl : Nat → Int32} {ln : Int32} (h : isX cy K ad g n sn bu tl ln) : (n + 213) < K := by have h1 := h.1; omega
theorem isX.n214 {cy : Nat → ClassId} {K : Nat} {ad : Nat → Nat} {g : Nat → va_E} {n : Nat} {sn : Nat → Option Nat} {bu : Nat → Int32} {tl : Nat → Int32} {ln : Int32} (h : isX cy K ad g n sn bu tl ln) : (n + 214) < K := by have h1 := h.1; omega
theorem isX.n220 {cy : Nat → ClassId} {K : Nat} {ad : Nat → Nat} {g : Nat → va_E} {n : Nat} {sn : Nat → Option Nat} {bu : Nat → Int32} {tl : Nat → Int32} {ln : Int32} (h : isX cy K ad g n sn bu tl ln) : (n + 220) < K := by have h1 := h.1; omega
theorem isX.o {cy : Nat → ClassId} {K : Nat} {ad : Nat → Nat} {g : Nat → va_E} {n : Nat} {sn : Nat → Option Nat} {bu : Nat → Int32} {tl : Nat → Int32} {ln : Int32} (h : isX cy K ad g n sn bu tl ln) : g n = .inr (4, [.ref (ad (n + 1)), .ref (ad (n + 31)), .ref (ad (n + 213)), .ref (ad (n + 214)), .int ln, .ref (ad (n + 215)), .ref (ad (n + 216)), .ref (ad (n + 220))]) := h.2.1
theorem isX.a_sn {cy : Nat → ClassId} {K : Nat} {ad : Nat → Nat} {g : Nat → va_E} {n : Nat} {sn : Nat → Option Nat} {bu : Nat → Int32} {tl : Nat → Int32} {ln : Int32} (h : isX cy K ad g n sn bu tl ln) : g (n + 213) = .inl (cy 4, 2, .inr (.inr (.inr (.inr sn)))) := h.2.2.1
theorem isX.a_bu {cy : Nat → ClassId} {K : Nat} {ad : Nat → Nat} {g : Nat → va_E} {n : Nat} {sn : Nat → Option Nat} {bu : Nat → Int32} {tl : Nat → Int32} {ln : Int32} (h : isX cy K ad g n sn bu tl ln) : g (n + 214) = .inl (cy 0, 60, .inl bu) := h.2.2.2.1
theorem isX.a_tl {cy : Nat → ClassId} {K : Nat} {ad : Nat → Nat} {g : Nat → va_E} {n : Nat} {sn : Nat → Option Nat} {bu : Nat → Int32} {tl : Nat → Int32} {ln : Int32} (h : isX cy K ad g n sn bu tl ln) : g (n + 220) = .inl (cy 1, 7, .inl tl) := h.2.2.2.2
theorem isX.kept {cy : Nat → ClassId} {K : Nat} {ad : Nat → Nat} {g : Nat → va_E} {n : Nat} {sn : Nat → Option Nat} {bu : Nat → Int32} {tl : Nat → Int32} {ln : Int32} (h : isX cy K ad g n sn bu tl ln) {P : Nat → Prop} {g1 : Nat → va_E} (hf : zFr P g g1) (hd : ¬ P n ∧ ¬ P (n + 213) ∧ ¬ P (n + 214) ∧ ¬ P (n + 220)) : isX cy K ad g1 n sn bu tl ln := ⟨h.1, (hf _ hd.1).trans h.o, (hf _ hd.2.1).trans h.a_sn, (hf _ hd.2.2.1).trans h.a_bu, (hf _ hd.2.2.2).trans h.a_tl⟩
theorem zp_X_ln {p : Program} {l : Launch} {e : Env} {R : Room} {s0 : State} {m : MethodId} {args : Array Value} {below : List Frame} {meth : Method} {c : Code} {H : Heap} {locs : List Loc} {cells slots : Nat} {Q : State → Prop} {D : va_G} {cy : Nat → ClassId} {K : Nat} {ad : Nat → Nat} {g g0 : Nat → va_E} {P : Nat → Prop} {A : Nat → Prop} {cc : ByteArray} {own : String} {nL pc9 : Nat} {ls : Array Slot} {rest : List Value} {n : Nat} {sn : Nat → Option Nat} {bu : Nat → Int32} {tl : Nat → Int32} {ln : Int32} (C0 : zC p s0 m args c meth cc nL own D cy A) (hP : zP D K ad g A H) (hS : va_S A s0.heap H locs) (h : isX cy K ad g n sn bu tl ln) (hFr : zFr P g0 g) (hp : P n) {index : Nat} (hF : zFp own index 4 4 .int false) {v9 : Int32} (hdg : decode cc pc9 = .ok (.putfield index, 3))
    (kk : ∀ (g1 : Nat → va_E) (H1 : Heap) (locs1 : List Loc), zP D K ad g1 A H1 → va_S A s0.heap H1 locs1 → isX cy K ad g1 n sn bu tl v9 → zFr P g0 g1 → zFr (zOne n) g g1 → W p l e R s0 m args below meth c H1 locs1 cells slots Q (F0 m (pc9 + 3) ls rest)) : W p l e R s0 m args below meth c H locs cells slots Q (F0 m pc9 ls (.int v9 :: .ref (ad n) :: rest)) := by
  have hs := h.1
  refine z_put C0 hP hS h.n0 h.o hF rfl rfl (Nat.le_of_ble_eq_true rfl) hdg (fun H1 locs1 h1 h2 => ?_)
  exact kk _ H1 locs1 h1 h2 ⟨h.1, va_up_self _ _ _, (va_up_ne _ _ (by omega)).trans h.a_sn, (va_up_ne _ _ (by omega)).trans h.a_bu, (va_up_ne _ _ (by omega)).trans h.a_tl⟩ (hFr.up hp) (zFr.up zFr.rf rfl)
theorem zp_X_sn {p : Program} {l : Launch} {e : Env} {R : Room} {s0 : State} {m : MethodId} {args : Array Value} {below : List Frame} {meth : Method} {c : Code} {H : Heap} {locs : List Loc} {cells slots : Nat} {Q : State → Prop} {D : va_G} {cy : Nat → ClassId} {K : Nat} {ad : Nat → Nat} {g g0 : Nat → va_E} {P : Nat → Prop} {A : Nat → Prop} {cc : ByteArray} {own : String} {nL pc9 : Nat} {ls : Array Slot} {rest : List Value} {n : Nat} {sn : Nat → Option Nat} {bu : Nat → Int32} {tl : Nat → Int32} {ln : Int32} (C0 : zC p s0 m args c meth cc nL own D cy A) (hP : zP D K ad g A H) (hS : va_S A s0.heap H locs) (h : isX cy K ad g n sn bu tl ln) (hFr : zFr P g0 g) (hp : P (n + 213)) {i9 : Int32} {j9 b9 ci9 : Nat} {r9 : vw_C} {vs9 : List Value} (hc9 : vwCl[ci9]? = some r9) (ht9 : (zT cy)[4]? = some (cy 4, .object r9.1)) (hb9 : b9 < K) (he9 : g b9 = .inr (ci9, vs9)) (hi : zIx i9 2 j9) (hdg : decode cc pc9 = .ok (.aastore, 1))
    (kk : ∀ (g1 : Nat → va_E) (H1 : Heap) (locs1 : List Loc), zP D K ad g1 A H1 → va_S A s0.heap H1 locs1 → isX cy K ad g1 n (va_up sn j9 (some (ad b9))) bu tl ln → zFr P g0 g1 → zFr (zOne (n + 213)) g g1 → W p l e R s0 m args below meth c H1 locs1 cells slots Q (F0 m (pc9 + 1) ls rest)) : W p l e R s0 m args below meth c H locs cells slots Q (F0 m pc9 ls (.ref (ad b9) :: .int i9 :: .ref (ad (n + 213)) :: rest)) := by
  have hs := h.1
  refine z_aast C0 hP hS h.n213 h.a_sn hc9 ht9 hb9 he9 hi hdg (fun H1 locs1 h1 h2 => ?_)
  exact kk _ H1 locs1 h1 h2 ⟨h.1, (va_up_ne _ _ (by omega)).trans h.o, va_up_self _ _ _, (va_up_ne _ _ (by omega)).trans h.a_bu, (va_up_ne _ _ (by omega)).trans h.a_tl⟩ (hFr.up hp) (zFr.up zFr.rf rfl)
theorem zp_X_bu {p : Program} {l : Launch} {e : Env} {R : Room} {s0 : State} {m : MethodId} {args : Array Value} {below : List Frame} {meth : Method} {c : Code} {H : Heap} {locs : List Loc} {cells slots : Nat} {Q : State → Prop} {D : va_G} {cy : Nat → ClassId} {K : Nat} {ad : Nat → Nat} {g g0 : Nat → va_E} {P : Nat → Prop} {A : Nat → Prop} {cc : ByteArray} {own : String} {nL pc9 : Nat} {ls : Array Slot} {rest : List Value} {n : Nat} {sn : Nat → Option Nat} {bu : Nat → Int32} {tl : Nat → Int32} {ln : Int32} (C0 : zC p s0 m args c meth cc nL own D cy A) (hP : zP D K ad g A H) (hS : va_S A s0.heap H locs) (h : isX cy K ad g n sn bu tl ln) (hFr : zFr P g0 g) (hp : P (n + 214)) {i9 : Int32} {v9 : Int32} {j9 : Nat} (hi : zIx i9 60 j9) (hv9 : vp_nar .char v9 = v9) (hdg : decode cc pc9 = .ok (.castore, 1))
    (kk : ∀ (g1 : Nat → va_E) (H1 : Heap) (locs1 : List Loc), zP D K ad g1 A H1 → va_S A s0.heap H1 locs1 → isX cy K ad g1 n sn (upd bu j9 v9) tl ln → zFr P g0 g1 → zFr (zOne (n + 214)) g g1 → W p l e R s0 m args below meth c H1 locs1 cells slots Q (F0 m (pc9 + 1) ls rest)) : W p l e R s0 m args below meth c H locs cells slots Q (F0 m pc9 ls (.int v9 :: .int i9 :: .ref (ad (n + 214)) :: rest)) := by
  have hs := h.1
  refine z_cast C0 hP hS h.n214 h.a_bu hi hv9 hdg (fun H1 locs1 h1 h2 => ?_)
  exact kk _ H1 locs1 h1 h2 ⟨h.1, (va_up_ne _ _ (by omega)).trans h.o, (va_up_ne _ _ (by omega)).trans h.a_sn, va_up_self _ _ _, (va_up_ne _ _ (by omega)).trans h.a_tl⟩ (hFr.up hp) (zFr.up zFr.rf rfl)
theorem zp_X_tl {p : Program} {l : Launch} {e : Env} {R : Room} {s0 : State} {m : MethodId} {args : Array Value} {below : List Frame} {meth : Method} {c : Code} {H : Heap} {locs : List Loc} {cells slots : Nat} {Q : State → Prop} {D : va_G} {cy : Nat → ClassId} {K : Nat} {ad : Nat → Nat} {g g0 : Nat → va_E} {P : Nat → Prop} {A : Nat → Prop} {cc : ByteArray} {own : String} {nL pc9 : Nat} {ls : Array Slot} {rest : List Value} {n : Nat} {sn : Nat → Option Nat} {bu : Nat → Int32} {tl : Nat → Int32} {ln : Int32} (C0 : zC p s0 m args c meth cc nL own D cy A) (hP : zP D K ad g A H) (hS : va_S A s0.heap H locs) (h : isX cy K ad g n sn bu tl ln) (hFr : zFr P g0 g) (hp : P (n + 220)) {i9 : Int32} {v9 : Int32} {j9 : Nat} (hi : zIx i9 7 j9) (hdg : decode cc pc9 = .ok (.iastore, 1))
    (kk : ∀ (g1 : Nat → va_E) (H1 : Heap) (locs1 : List Loc), zP D K ad g1 A H1 → va_S A s0.heap H1 locs1 → isX cy K ad g1 n sn bu (upd tl j9 v9) ln → zFr P g0 g1 → zFr (zOne (n + 220)) g g1 → W p l e R s0 m args below meth c H1 locs1 cells slots Q (F0 m (pc9 + 1) ls rest)) : W p l e R s0 m args below meth c H locs cells slots Q (F0 m pc9 ls (.int v9 :: .int i9 :: .ref (ad (n + 220)) :: rest)) := by
  have hs := h.1
  refine z_iast C0 hP hS h.n220 h.a_tl hi hdg (fun H1 locs1 h1 h2 => ?_)
  exact kk _ H1 locs1 h1 h2 ⟨h.1, (va_up_ne _ _ (by omega)).trans h.o, (va_up_ne _ _ (by omega)).trans h.a_sn, (va_up_ne _ _ (by omega)).trans h.a_bu, va_up_self _ _ _⟩ (hFr.up hp) (zFr.up zFr.rf rfl)
def isM (cy : Nat → ClassId) (K : Nat) (ad : Nat → Nat) (g : Nat → va_E) (n : Nat) (s : Nat → Int32) (as : Nat → Int32) (so : Nat → Int32) (ik : Nat → Int32) (sv : Nat → Int32) (tx : Nat → Int32) (kn : Nat → Int32) (lo : Nat → Int32) (th : Int32) (sm : Int32) (ln : Int32) (dg : Int64) : Prop := n + 9 ≤ K ∧ g n = .inr (5, [.int th, .ref (ad (n + 1)), .ref (ad (n + 2)), .ref (ad (n + 3)), .ref (ad (n + 4)), .ref (ad (n + 5)), .int sm, .ref (ad (n + 6)), .int ln, .ref (ad (n + 7)), .ref (ad (n + 8)), .long dg]) ∧ g (n + 1) = .inl (cy 1, 223, .inl s) ∧ g (n + 2) = .inl (cy 1, 223, .inl as) ∧ g (n + 3) = .inl (cy 1, 446, .inl so) ∧ g (n + 4) = .inl (cy 2, 2, .inl ik) ∧ g (n + 5) = .inl (cy 1, 1338, .inl sv) ∧ g (n + 6) = .inl (cy 1, 60, .inl tx) ∧ g (n + 7) = .inl (cy 1, 6, .inl kn) ∧ g (n + 8) = .inl (cy 1, 6, .inl lo)
theorem isM.n0 {cy : Nat → ClassId} {K : Nat} {ad : Nat → Nat} {g : Nat → va_E} {n : Nat} {s : Nat → Int32} {as : Nat → Int32} {so : Nat → Int32} {ik : Nat → Int32} {sv : Nat → Int32} {tx : Nat → Int32} {kn : Nat → Int32} {lo : Nat → Int32} {th : Int32} {sm : Int32} {ln : Int32} {dg : Int64} (h : isM cy K ad g n s as so ik sv tx kn lo th sm ln dg) : n < K := by have h1 := h.1; omega
theorem isM.n1 {cy : Nat → ClassId} {K : Nat} {ad : Nat → Nat} {g : Nat → va_E} {n : Nat} {s : Nat → Int32} {as : Nat → Int32} {so : Nat → Int32} {ik : Nat → Int32} {sv : Nat → Int32} {tx : Nat → Int32} {kn : Nat → Int32} {lo : Nat → Int32} {th : Int32} {sm : Int32} {ln : Int32} {dg : Int64} (h : isM cy K ad g n s as so ik sv tx kn lo th sm ln dg) : (n + 1) < K := by have h1 := h.1; omega
theorem isM.n2 {cy : Nat → ClassId} {K : Nat} {ad : Nat → Nat} {g : Nat → va_E} {n : Nat} {s : Nat → Int32} {as : Nat → Int32} {so : Nat → Int32} {ik : Nat → Int32} {sv : Nat → Int32} {tx : Nat → Int32} {kn : Nat → Int32} {lo : Nat → Int32} {th : Int32} {sm : Int32} {ln : Int32} {dg : Int64} (h : isM cy K ad g n s as so ik sv tx kn lo th sm ln dg) : (n + 2) < K := by have h1 := h.1; omega
theorem isM.n3 {cy : Nat → ClassId} {K : Nat} {ad : Nat → Nat} {g : Nat → va_E} {n : Nat} {s : Nat → Int32} {as : Nat → Int32} {so : Nat → Int32} {ik : Nat → Int32} {sv : Nat → Int32} {tx : Nat → Int32} {kn : Nat → Int32} {lo : Nat → Int32} {th : Int32} {sm : Int32} {ln : Int32} {dg : Int64} (h : isM cy K ad g n s as so ik sv tx kn lo th sm ln dg) : (n + 3) < K := by have h1 := h.1; omega
theorem isM.n4 {cy : Nat → ClassId} {K : Nat} {ad : Nat → Nat} {g : Nat → va_E} {n : Nat} {s : Nat → Int32} {as : Nat → Int32} {so : Nat → Int32} {ik : Nat → Int32} {sv : Nat → Int32} {tx : Nat → Int32} {kn : Nat → Int32} {lo : Nat → Int32} {th : Int32} {sm : Int32} {ln : Int32} {dg : Int64} (h : isM cy K ad g n s as so ik sv tx kn lo th sm ln dg) : (n + 4) < K := by have h1 := h.1; omega
theorem isM.n5 {cy : Nat → ClassId} {K : Nat} {ad : Nat → Nat} {g : Nat → va_E} {n : Nat} {s : Nat → Int32} {as : Nat → Int32} {so : Nat → Int32} {ik : Nat → Int32} {sv : Nat → Int32} {tx : Nat → Int32} {kn : Nat → Int32} {lo : Nat → Int32} {th : Int32} {sm : Int32} {ln : Int32} {dg : Int64} (h : isM cy K ad g n s as so ik sv tx kn lo th sm ln dg) : (n + 5) < K := by have h1 := h.1; omega
theorem isM.n6 {cy : Nat → ClassId} {K : Nat} {ad : Nat → Nat} {g : Nat → va_E} {n : Nat} {s : Nat → Int32} {as : Nat → Int32} {so : Nat → Int32} {ik : Nat → Int32} {sv : Nat → Int32} {tx : Nat → Int32} {kn : Nat → Int32} {lo : Nat → Int32} {th : Int32} {sm : Int32} {ln : Int32} {dg : Int64} (h : isM cy K ad g n s as so ik sv tx kn lo th sm ln dg) : (n + 6) < K := by have h1 := h.1; omega
theorem isM.n7 {cy : Nat → ClassId} {K : Nat} {ad : Nat → Nat} {g : Nat → va_E} {n : Nat} {s : Nat → Int32} {as : Nat → Int32} {so : Nat → Int32} {ik : Nat → Int32} {sv : Nat → Int32} {tx : Nat → Int32} {kn : Nat → Int32} {lo : Nat → Int32} {th : Int32} {sm : Int32} {ln : Int32} {dg : Int64} (h : isM cy K ad g n s as so ik sv tx kn lo th sm ln dg) : (n + 7) < K := by have h1 := h.1; omega
theorem isM.n8 {cy : Nat → ClassId} {K : Nat} {ad : Nat → Nat} {g : Nat → va_E} {n : Nat} {s : Nat → Int32} {as : Nat → Int32} {so : Nat → Int32} {ik : Nat → Int32} {sv : Nat → Int32} {tx : Nat → Int32} {kn : Nat → Int32} {lo : Nat → Int32} {th : Int32} {sm : Int32} {ln : Int32} {dg : Int64} (h : isM cy K ad g n s as so ik sv tx kn lo th sm ln dg) : (n + 8) < K := by have h1 := h.1; omega
theorem isM.o {cy : Nat → ClassId} {K : Nat} {ad : Nat → Nat} {g : Nat → va_E} {n : Nat} {s : Nat → Int32} {as : Nat → Int32} {so : Nat → Int32} {ik : Nat → Int32} {sv : Nat → Int32} {tx : Nat → Int32} {kn : Nat → Int32} {lo : Nat → Int32} {th : Int32} {sm : Int32} {ln : Int32} {dg : Int64} (h : isM cy K ad g n s as so ik sv tx kn lo th sm ln dg) : g n = .inr (5, [.int th, .ref (ad (n + 1)), .ref (ad (n + 2)), .ref (ad (n + 3)), .ref (ad (n + 4)), .ref (ad (n + 5)), .int sm, .ref (ad (n + 6)), .int ln, .ref (ad (n + 7)), .ref (ad (n + 8)), .long dg]) := h.2.1
theorem isM.a_s {cy : Nat → ClassId} {K : Nat} {ad : Nat → Nat} {g : Nat → va_E} {n : Nat} {s : Nat → Int32} {as : Nat → Int32} {so : Nat → Int32} {ik : Nat → Int32} {sv : Nat → Int32} {tx : Nat → Int32} {kn : Nat → Int32} {lo : Nat → Int32} {th : Int32} {sm : Int32} {ln : Int32} {dg : Int64} (h : isM cy K ad g n s as so ik sv tx kn lo th sm ln dg) : g (n + 1) = .inl (cy 1, 223, .inl s) := h.2.2.1
theorem isM.a_as {cy : Nat → ClassId} {K : Nat} {ad : Nat → Nat} {g : Nat → va_E} {n : Nat} {s : Nat → Int32} {as : Nat → Int32} {so : Nat → Int32} {ik : Nat → Int32} {sv : Nat → Int32} {tx : Nat → Int32} {kn : Nat → Int32} {lo : Nat → Int32} {th : Int32} {sm : Int32} {ln : Int32} {dg : Int64} (h : isM cy K ad g n s as so ik sv tx kn lo th sm ln dg) : g (n + 2) = .inl (cy 1, 223, .inl as) := h.2.2.2.1
theorem isM.a_so {cy : Nat → ClassId} {K : Nat} {ad : Nat → Nat} {g : Nat → va_E} {n : Nat} {s : Nat → Int32} {as : Nat → Int32} {so : Nat → Int32} {ik : Nat → Int32} {sv : Nat → Int32} {tx : Nat → Int32} {kn : Nat → Int32} {lo : Nat → Int32} {th : Int32} {sm : Int32} {ln : Int32} {dg : Int64} (h : isM cy K ad g n s as so ik sv tx kn lo th sm ln dg) : g (n + 3) = .inl (cy 1, 446, .inl so) := h.2.2.2.2.1
theorem isM.a_ik {cy : Nat → ClassId} {K : Nat} {ad : Nat → Nat} {g : Nat → va_E} {n : Nat} {s : Nat → Int32} {as : Nat → Int32} {so : Nat → Int32} {ik : Nat → Int32} {sv : Nat → Int32} {tx : Nat → Int32} {kn : Nat → Int32} {lo : Nat → Int32} {th : Int32} {sm : Int32} {ln : Int32} {dg : Int64} (h : isM cy K ad g n s as so ik sv tx kn lo th sm ln dg) : g (n + 4) = .inl (cy 2, 2, .inl ik) := h.2.2.2.2.2.1
theorem isM.a_sv {cy : Nat → ClassId} {K : Nat} {ad : Nat → Nat} {g : Nat → va_E} {n : Nat} {s : Nat → Int32} {as : Nat → Int32} {so : Nat → Int32} {ik : Nat → Int32} {sv : Nat → Int32} {tx : Nat → Int32} {kn : Nat → Int32} {lo : Nat → Int32} {th : Int32} {sm : Int32} {ln : Int32} {dg : Int64} (h : isM cy K ad g n s as so ik sv tx kn lo th sm ln dg) : g (n + 5) = .inl (cy 1, 1338, .inl sv) := h.2.2.2.2.2.2.1
theorem isM.a_tx {cy : Nat → ClassId} {K : Nat} {ad : Nat → Nat} {g : Nat → va_E} {n : Nat} {s : Nat → Int32} {as : Nat → Int32} {so : Nat → Int32} {ik : Nat → Int32} {sv : Nat → Int32} {tx : Nat → Int32} {kn : Nat → Int32} {lo : Nat → Int32} {th : Int32} {sm : Int32} {ln : Int32} {dg : Int64} (h : isM cy K ad g n s as so ik sv tx kn lo th sm ln dg) : g (n + 6) = .inl (cy 1, 60, .inl tx) := h.2.2.2.2.2.2.2.1
theorem isM.a_kn {cy : Nat → ClassId} {K : Nat} {ad : Nat → Nat} {g : Nat → va_E} {n : Nat} {s : Nat → Int32} {as : Nat → Int32} {so : Nat → Int32} {ik : Nat → Int32} {sv : Nat → Int32} {tx : Nat → Int32} {kn : Nat → Int32} {lo : Nat → Int32} {th : Int32} {sm : Int32} {ln : Int32} {dg : Int64} (h : isM cy K ad g n s as so ik sv tx kn lo th sm ln dg) : g (n + 7) = .inl (cy 1, 6, .inl kn) := h.2.2.2.2.2.2.2.2.1
theorem isM.a_lo {cy : Nat → ClassId} {K : Nat} {ad : Nat → Nat} {g : Nat → va_E} {n : Nat} {s : Nat → Int32} {as : Nat → Int32} {so : Nat → Int32} {ik : Nat → Int32} {sv : Nat → Int32} {tx : Nat → Int32} {kn : Nat → Int32} {lo : Nat → Int32} {th : Int32} {sm : Int32} {ln : Int32} {dg : Int64} (h : isM cy K ad g n s as so ik sv tx kn lo th sm ln dg) : g (n + 8) = .inl (cy 1, 6, .inl lo) := h.2.2.2.2.2.2.2.2.2
theorem isM.kept {cy : Nat → ClassId} {K : Nat} {ad : Nat → Nat} {g : Nat → va_E} {n : Nat} {s : Nat → Int32} {as : Nat → Int32} {so : Nat → Int32} {ik : Nat → Int32} {sv : Nat → Int32} {tx : Nat → Int32} {kn : Nat → Int32} {lo : Nat → Int32} {th : Int32} {sm : Int32} {ln : Int32} {dg : Int64} (h : isM cy K ad g n s as so ik sv tx kn lo th sm ln dg) {P : Nat → Prop} {g1 : Nat → va_E} (hf : zFr P g g1) (hd : ¬ P n ∧ ¬ P (n + 1) ∧ ¬ P (n + 2) ∧ ¬ P (n + 3) ∧ ¬ P (n + 4) ∧ ¬ P (n + 5) ∧ ¬ P (n + 6) ∧ ¬ P (n + 7) ∧ ¬ P (n + 8)) : isM cy K ad g1 n s as so ik sv tx kn lo th sm ln dg := ⟨h.1, (hf _ hd.1).trans h.o, (hf _ hd.2.1).trans h.a_s, (hf _ hd.2.2.1).trans h.a_as, (hf _ hd.2.2.2.1).trans h.a_so, (hf _ hd.2.2.2.2.1).trans h.a_ik, (hf _ hd.2.2.2.2.2.1).trans h.a_sv, (hf _ hd.2.2.2.2.2.2.1).trans h.a_tx, (hf _ hd.2.2.2.2.2.2.2.1).trans h.a_kn, (hf _ hd.2.2.2.2.2.2.2.2).trans h.a_lo⟩
theorem zp_M_th {p : Program} {l : Launch} {e : Env} {R : Room} {s0 : State} {m : MethodId} {args : Array Value} {below : List Frame} {meth : Method} {c : Code} {H : Heap} {locs : List Loc} {cells slots : Nat} {Q : State → Prop} {D : va_G} {cy : Nat → ClassId} {K : Nat} {ad : Nat → Nat} {g g0 : Nat → va_E} {P : Nat → Prop} {A : Nat → Prop} {cc : ByteArray} {own : String} {nL pc9 : Nat} {ls : Array Slot} {rest : List Value} {n : Nat} {s : Nat → Int32} {as : Nat → Int32} {so : Nat → Int32} {ik : Nat → Int32} {sv : Nat → Int32} {tx : Nat → Int32} {kn : Nat → Int32} {lo : Nat → Int32} {th : Int32} {sm : Int32} {ln : Int32} {dg : Int64} (C0 : zC p s0 m args c meth cc nL own D cy A) (hP : zP D K ad g A H) (hS : va_S A s0.heap H locs) (h : isM cy K ad g n s as so ik sv tx kn lo th sm ln dg) (hFr : zFr P g0 g) (hp : P n) {index : Nat} (hF : zFp own index 5 0 .int false) {v9 : Int32} (hdg : decode cc pc9 = .ok (.putfield index, 3))
    (kk : ∀ (g1 : Nat → va_E) (H1 : Heap) (locs1 : List Loc), zP D K ad g1 A H1 → va_S A s0.heap H1 locs1 → isM cy K ad g1 n s as so ik sv tx kn lo v9 sm ln dg → zFr P g0 g1 → zFr (zOne n) g g1 → W p l e R s0 m args below meth c H1 locs1 cells slots Q (F0 m (pc9 + 3) ls rest)) : W p l e R s0 m args below meth c H locs cells slots Q (F0 m pc9 ls (.int v9 :: .ref (ad n) :: rest)) := by
  have hs := h.1
  refine z_put C0 hP hS h.n0 h.o hF rfl rfl (Nat.le_of_ble_eq_true rfl) hdg (fun H1 locs1 h1 h2 => ?_)
  exact kk _ H1 locs1 h1 h2 ⟨h.1, va_up_self _ _ _, (va_up_ne _ _ (by omega)).trans h.a_s, (va_up_ne _ _ (by omega)).trans h.a_as, (va_up_ne _ _ (by omega)).trans h.a_so, (va_up_ne _ _ (by omega)).trans h.a_ik, (va_up_ne _ _ (by omega)).trans h.a_sv, (va_up_ne _ _ (by omega)).trans h.a_tx, (va_up_ne _ _ (by omega)).trans h.a_kn, (va_up_ne _ _ (by omega)).trans h.a_lo⟩ (hFr.up hp) (zFr.up zFr.rf rfl)
theorem zp_M_sm {p : Program} {l : Launch} {e : Env} {R : Room} {s0 : State} {m : MethodId} {args : Array Value} {below : List Frame} {meth : Method} {c : Code} {H : Heap} {locs : List Loc} {cells slots : Nat} {Q : State → Prop} {D : va_G} {cy : Nat → ClassId} {K : Nat} {ad : Nat → Nat} {g g0 : Nat → va_E} {P : Nat → Prop} {A : Nat → Prop} {cc : ByteArray} {own : String} {nL pc9 : Nat} {ls : Array Slot} {rest : List Value} {n : Nat} {s : Nat → Int32} {as : Nat → Int32} {so : Nat → Int32} {ik : Nat → Int32} {sv : Nat → Int32} {tx : Nat → Int32} {kn : Nat → Int32} {lo : Nat → Int32} {th : Int32} {sm : Int32} {ln : Int32} {dg : Int64} (C0 : zC p s0 m args c meth cc nL own D cy A) (hP : zP D K ad g A H) (hS : va_S A s0.heap H locs) (h : isM cy K ad g n s as so ik sv tx kn lo th sm ln dg) (hFr : zFr P g0 g) (hp : P n) {index : Nat} (hF : zFp own index 5 6 .int false) {v9 : Int32} (hdg : decode cc pc9 = .ok (.putfield index, 3))
    (kk : ∀ (g1 : Nat → va_E) (H1 : Heap) (locs1 : List Loc), zP D K ad g1 A H1 → va_S A s0.heap H1 locs1 → isM cy K ad g1 n s as so ik sv tx kn lo th v9 ln dg → zFr P g0 g1 → zFr (zOne n) g g1 → W p l e R s0 m args below meth c H1 locs1 cells slots Q (F0 m (pc9 + 3) ls rest)) : W p l e R s0 m args below meth c H locs cells slots Q (F0 m pc9 ls (.int v9 :: .ref (ad n) :: rest)) := by
  have hs := h.1
  refine z_put C0 hP hS h.n0 h.o hF rfl rfl (Nat.le_of_ble_eq_true rfl) hdg (fun H1 locs1 h1 h2 => ?_)
  exact kk _ H1 locs1 h1 h2 ⟨h.1, va_up_self _ _ _, (va_up_ne _ _ (by omega)).trans h.a_s, (va_up_ne _ _ (by omega)).trans h.a_as, (va_up_ne _ _ (by omega)).trans h.a_so, (va_up_ne _ _ (by omega)).trans h.a_ik, (va_up_ne _ _ (by omega)).trans h.a_sv, (va_up_ne _ _ (by omega)).trans h.a_tx, (va_up_ne _ _ (by omega)).trans h.a_kn, (va_up_ne _ _ (by omega)).trans h.a_lo⟩ (hFr.up hp) (zFr.up zFr.rf rfl)
theorem zp_M_ln {p : Program} {l : Launch} {e : Env} {R : Room} {s0 : State} {m : MethodId} {args : Array Value} {below : List Frame} {meth : Method} {c : Code} {H : Heap} {locs : List Loc} {cells slots : Nat} {Q : State → Prop} {D : va_G} {cy : Nat → ClassId} {K : Nat} {ad : Nat → Nat} {g g0 : Nat → va_E} {P : Nat → Prop} {A : Nat → Prop} {cc : ByteArray} {own : String} {nL pc9 : Nat} {ls : Array Slot} {rest : List Value} {n : Nat} {s : Nat → Int32} {as : Nat → Int32} {so : Nat → Int32} {ik : Nat → Int32} {sv : Nat → Int32} {tx : Nat → Int32} {kn : Nat → Int32} {lo : Nat → Int32} {th : Int32} {sm : Int32} {ln : Int32} {dg : Int64} (C0 : zC p s0 m args c meth cc nL own D cy A) (hP : zP D K ad g A H) (hS : va_S A s0.heap H locs) (h : isM cy K ad g n s as so ik sv tx kn lo th sm ln dg) (hFr : zFr P g0 g) (hp : P n) {index : Nat} (hF : zFp own index 5 8 .int false) {v9 : Int32} (hdg : decode cc pc9 = .ok (.putfield index, 3))
    (kk : ∀ (g1 : Nat → va_E) (H1 : Heap) (locs1 : List Loc), zP D K ad g1 A H1 → va_S A s0.heap H1 locs1 → isM cy K ad g1 n s as so ik sv tx kn lo th sm v9 dg → zFr P g0 g1 → zFr (zOne n) g g1 → W p l e R s0 m args below meth c H1 locs1 cells slots Q (F0 m (pc9 + 3) ls rest)) : W p l e R s0 m args below meth c H locs cells slots Q (F0 m pc9 ls (.int v9 :: .ref (ad n) :: rest)) := by
  have hs := h.1
  refine z_put C0 hP hS h.n0 h.o hF rfl rfl (Nat.le_of_ble_eq_true rfl) hdg (fun H1 locs1 h1 h2 => ?_)
  exact kk _ H1 locs1 h1 h2 ⟨h.1, va_up_self _ _ _, (va_up_ne _ _ (by omega)).trans h.a_s, (va_up_ne _ _ (by omega)).trans h.a_as, (va_up_ne _ _ (by omega)).trans h.a_so, (va_up_ne _ _ (by omega)).trans h.a_ik, (va_up_ne _ _ (by omega)).trans h.a_sv, (va_up_ne _ _ (by omega)).trans h.a_tx, (va_up_ne _ _ (by omega)).trans h.a_kn, (va_up_ne _ _ (by omega)).trans h.a_lo⟩ (hFr.up hp) (zFr.up zFr.rf rfl)
theorem zp_M_dg {p : Program} {l : Launch} {e : Env} {R : Room} {s0 : State} {m : MethodId} {args : Array Value} {below : List Frame} {meth : Method} {c : Code} {H : Heap} {locs : List Loc} {cells slots : Nat} {Q : State → Prop} {D : va_G} {cy : Nat → ClassId} {K : Nat} {ad : Nat → Nat} {g g0 : Nat → va_E} {P : Nat → Prop} {A : Nat → Prop} {cc : ByteArray} {own : String} {nL pc9 : Nat} {ls : Array Slot} {rest : List Value} {n : Nat} {s : Nat → Int32} {as : Nat → Int32} {so : Nat → Int32} {ik : Nat → Int32} {sv : Nat → Int32} {tx : Nat → Int32} {kn : Nat → Int32} {lo : Nat → Int32} {th : Int32} {sm : Int32} {ln : Int32} {dg : Int64} (C0 : zC p s0 m args c meth cc nL own D cy A) (hP : zP D K ad g A H) (hS : va_S A s0.heap H locs) (h : isM cy K ad g n s as so ik sv tx kn lo th sm ln dg) (hFr : zFr P g0 g) (hp : P n) {index : Nat} (hF : zFp own index 5 11 .long false) {v9 : Int64} (hdg : decode cc pc9 = .ok (.putfield index, 3))
    (kk : ∀ (g1 : Nat → va_E) (H1 : Heap) (locs1 : List Loc), zP D K ad g1 A H1 → va_S A s0.heap H1 locs1 → isM cy K ad g1 n s as so ik sv tx kn lo th sm ln v9 → zFr P g0 g1 → zFr (zOne n) g g1 → W p l e R s0 m args below meth c H1 locs1 cells slots Q (F0 m (pc9 + 3) ls rest)) : W p l e R s0 m args below meth c H locs cells slots Q (F0 m pc9 ls (.long v9 :: .ref (ad n) :: rest)) := by
  have hs := h.1
  refine z_put C0 hP hS h.n0 h.o hF rfl rfl (Nat.le_of_ble_eq_true rfl) hdg (fun H1 locs1 h1 h2 => ?_)
  exact kk _ H1 locs1 h1 h2 ⟨h.1, va_up_self _ _ _, (va_up_ne _ _ (by omega)).trans h.a_s, (va_up_ne _ _ (by omega)).trans h.a_as, (va_up_ne _ _ (by omega)).trans h.a_so, (va_up_ne _ _ (by omega)).trans h.a_ik, (va_up_ne _ _ (by omega)).trans h.a_sv, (va_up_ne _ _ (by omega)).trans h.a_tx, (va_up_ne _ _ (by omega)).trans h.a_kn, (va_up_ne _ _ (by omega)).trans h.a_lo⟩ (hFr.up hp) (zFr.up zFr.rf rfl)
theorem zp_M_s {p : Program} {l : Launch} {e : Env} {R : Room} {s0 : State} {m : MethodId} {args : Array Value} {below : List Frame} {meth : Method} {c : Code} {H : Heap} {locs : List Loc} {cells slots : Nat} {Q : State → Prop} {D : va_G} {cy : Nat → ClassId} {K : Nat} {ad : Nat → Nat} {g g0 : Nat → va_E} {P : Nat → Prop} {A : Nat → Prop} {cc : ByteArray} {own : String} {nL pc9 : Nat} {ls : Array Slot} {rest : List Value} {n : Nat} {s : Nat → Int32} {as : Nat → Int32} {so : Nat → Int32} {ik : Nat → Int32} {sv : Nat → Int32} {tx : Nat → Int32} {kn : Nat → Int32} {lo : Nat → Int32} {th : Int32} {sm : Int32} {ln : Int32} {dg : Int64} (C0 : zC p s0 m args c meth cc nL own D cy A) (hP : zP D K ad g A H) (hS : va_S A s0.heap H locs) (h : isM cy K ad g n s as so ik sv tx kn lo th sm ln dg) (hFr : zFr P g0 g) (hp : P (n + 1)) {i9 : Int32} {v9 : Int32} {j9 : Nat} (hi : zIx i9 223 j9) (hdg : decode cc pc9 = .ok (.iastore, 1))
    (kk : ∀ (g1 : Nat → va_E) (H1 : Heap) (locs1 : List Loc), zP D K ad g1 A H1 → va_S A s0.heap H1 locs1 → isM cy K ad g1 n (upd s j9 v9) as so ik sv tx kn lo th sm ln dg → zFr P g0 g1 → zFr (zOne (n + 1)) g g1 → W p l e R s0 m args below meth c H1 locs1 cells slots Q (F0 m (pc9 + 1) ls rest)) : W p l e R s0 m args below meth c H locs cells slots Q (F0 m pc9 ls (.int v9 :: .int i9 :: .ref (ad (n + 1)) :: rest)) := by
  have hs := h.1
  refine z_iast C0 hP hS h.n1 h.a_s hi hdg (fun H1 locs1 h1 h2 => ?_)
  exact kk _ H1 locs1 h1 h2 ⟨h.1, (va_up_ne _ _ (by omega)).trans h.o, va_up_self _ _ _, (va_up_ne _ _ (by omega)).trans h.a_as, (va_up_ne _ _ (by omega)).trans h.a_so, (va_up_ne _ _ (by omega)).trans h.a_ik, (va_up_ne _ _ (by omega)).trans h.a_sv, (va_up_ne _ _ (by omega)).trans h.a_tx, (va_up_ne _ _ (by omega)).trans h.a_kn, (va_up_ne _ _ (by omega)).trans h.a_lo⟩ (hFr.up hp) (zFr.up zFr.rf rfl)
theorem zp_M_as {p : Program} {l : Launch} {e : Env} {R : Room} {s0 : State} {m : MethodId} {args : Array Value} {below : List Frame} {meth : Method} {c : Code} {H : Heap} {locs : List Loc} {cells slots : Nat} {Q : State → Prop} {D : va_G} {cy : Nat → ClassId} {K : Nat} {ad : Nat → Nat} {g g0 : Nat → va_E} {P : Nat → Prop} {A : Nat → Prop} {cc : ByteArray} {own : String} {nL pc9 : Nat} {ls : Array Slot} {rest : List Value} {n : Nat} {s : Nat → Int32} {as : Nat → Int32} {so : Nat → Int32} {ik : Nat → Int32} {sv : Nat → Int32} {tx : Nat → Int32} {kn : Nat → Int32} {lo : Nat → Int32} {th : Int32} {sm : Int32} {ln : Int32} {dg : Int64} (C0 : zC p s0 m args c meth cc nL own D cy A) (hP : zP D K ad g A H) (hS : va_S A s0.heap H locs) (h : isM cy K ad g n s as so ik sv tx kn lo th sm ln dg) (hFr : zFr P g0 g) (hp : P (n + 2)) {i9 : Int32} {v9 : Int32} {j9 : Nat} (hi : zIx i9 223 j9) (hdg : decode cc pc9 = .ok (.iastore, 1))
    (kk : ∀ (g1 : Nat → va_E) (H1 : Heap) (locs1 : List Loc), zP D K ad g1 A H1 → va_S A s0.heap H1 locs1 → isM cy K ad g1 n s (upd as j9 v9) so ik sv tx kn lo th sm ln dg → zFr P g0 g1 → zFr (zOne (n + 2)) g g1 → W p l e R s0 m args below meth c H1 locs1 cells slots Q (F0 m (pc9 + 1) ls rest)) : W p l e R s0 m args below meth c H locs cells slots Q (F0 m pc9 ls (.int v9 :: .int i9 :: .ref (ad (n + 2)) :: rest)) := by
  have hs := h.1
  refine z_iast C0 hP hS h.n2 h.a_as hi hdg (fun H1 locs1 h1 h2 => ?_)
  exact kk _ H1 locs1 h1 h2 ⟨h.1, (va_up_ne _ _ (by omega)).trans h.o, (va_up_ne _ _ (by omega)).trans h.a_s, va_up_self _ _ _, (va_up_ne _ _ (by omega)).trans h.a_so, (va_up_ne _ _ (by omega)).trans h.a_ik, (va_up_ne _ _ (by omega)).trans h.a_sv, (va_up_ne _ _ (by omega)).trans h.a_tx, (va_up_ne _ _ (by omega)).trans h.a_kn, (va_up_ne _ _ (by omega)).trans h.a_lo⟩ (hFr.up hp) (zFr.up zFr.rf rfl)
theorem zp_M_so {p : Program} {l : Launch} {e : Env} {R : Room} {s0 : State} {m : MethodId} {args : Array Value} {below : List Frame} {meth : Method} {c : Code} {H : Heap} {locs : List Loc} {cells slots : Nat} {Q : State → Prop} {D : va_G} {cy : Nat → ClassId} {K : Nat} {ad : Nat → Nat} {g g0 : Nat → va_E} {P : Nat → Prop} {A : Nat → Prop} {cc : ByteArray} {own : String} {nL pc9 : Nat} {ls : Array Slot} {rest : List Value} {n : Nat} {s : Nat → Int32} {as : Nat → Int32} {so : Nat → Int32} {ik : Nat → Int32} {sv : Nat → Int32} {tx : Nat → Int32} {kn : Nat → Int32} {lo : Nat → Int32} {th : Int32} {sm : Int32} {ln : Int32} {dg : Int64} (C0 : zC p s0 m args c meth cc nL own D cy A) (hP : zP D K ad g A H) (hS : va_S A s0.heap H locs) (h : isM cy K ad g n s as so ik sv tx kn lo th sm ln dg) (hFr : zFr P g0 g) (hp : P (n + 3)) {i9 : Int32} {v9 : Int32} {j9 : Nat} (hi : zIx i9 446 j9) (hdg : decode cc pc9 = .ok (.iastore, 1))
    (kk : ∀ (g1 : Nat → va_E) (H1 : Heap) (locs1 : List Loc), zP D K ad g1 A H1 → va_S A s0.heap H1 locs1 → isM cy K ad g1 n s as (upd so j9 v9) ik sv tx kn lo th sm ln dg → zFr P g0 g1 → zFr (zOne (n + 3)) g g1 → W p l e R s0 m args below meth c H1 locs1 cells slots Q (F0 m (pc9 + 1) ls rest)) : W p l e R s0 m args below meth c H locs cells slots Q (F0 m pc9 ls (.int v9 :: .int i9 :: .ref (ad (n + 3)) :: rest)) := by
  have hs := h.1
  refine z_iast C0 hP hS h.n3 h.a_so hi hdg (fun H1 locs1 h1 h2 => ?_)
  exact kk _ H1 locs1 h1 h2 ⟨h.1, (va_up_ne _ _ (by omega)).trans h.o, (va_up_ne _ _ (by omega)).trans h.a_s, (va_up_ne _ _ (by omega)).trans h.a_as, va_up_self _ _ _, (va_up_ne _ _ (by omega)).trans h.a_ik, (va_up_ne _ _ (by omega)).trans h.a_sv, (va_up_ne _ _ (by omega)).trans h.a_tx, (va_up_ne _ _ (by omega)).trans h.a_kn, (va_up_ne _ _ (by omega)).trans h.a_lo⟩ (hFr.up hp) (zFr.up zFr.rf rfl)
theorem zp_M_ik {p : Program} {l : Launch} {e : Env} {R : Room} {s0 : State} {m : MethodId} {args : Array Value} {below : List Frame} {meth : Method} {c : Code} {H : Heap} {locs : List Loc} {cells slots : Nat} {Q : State → Prop} {D : va_G} {cy : Nat → ClassId} {K : Nat} {ad : Nat → Nat} {g g0 : Nat → va_E} {P : Nat → Prop} {A : Nat → Prop} {cc : ByteArray} {own : String} {nL pc9 : Nat} {ls : Array Slot} {rest : List Value} {n : Nat} {s : Nat → Int32} {as : Nat → Int32} {so : Nat → Int32} {ik : Nat → Int32} {sv : Nat → Int32} {tx : Nat → Int32} {kn : Nat → Int32} {lo : Nat → Int32} {th : Int32} {sm : Int32} {ln : Int32} {dg : Int64} (C0 : zC p s0 m args c meth cc nL own D cy A) (hP : zP D K ad g A H) (hS : va_S A s0.heap H locs) (h : isM cy K ad g n s as so ik sv tx kn lo th sm ln dg) (hFr : zFr P g0 g) (hp : P (n + 4)) {i9 : Int32} {v9 : Int32} {j9 : Nat} (hi : zIx i9 2 j9) (hv9 : vp_nar .boolean v9 = v9) (hdg : decode cc pc9 = .ok (.bastore, 1))
    (kk : ∀ (g1 : Nat → va_E) (H1 : Heap) (locs1 : List Loc), zP D K ad g1 A H1 → va_S A s0.heap H1 locs1 → isM cy K ad g1 n s as so (upd ik j9 v9) sv tx kn lo th sm ln dg → zFr P g0 g1 → zFr (zOne (n + 4)) g g1 → W p l e R s0 m args below meth c H1 locs1 cells slots Q (F0 m (pc9 + 1) ls rest)) : W p l e R s0 m args below meth c H locs cells slots Q (F0 m pc9 ls (.int v9 :: .int i9 :: .ref (ad (n + 4)) :: rest)) := by
  have hs := h.1
  refine z_zast C0 hP hS h.n4 h.a_ik hi hv9 hdg (fun H1 locs1 h1 h2 => ?_)
  exact kk _ H1 locs1 h1 h2 ⟨h.1, (va_up_ne _ _ (by omega)).trans h.o, (va_up_ne _ _ (by omega)).trans h.a_s, (va_up_ne _ _ (by omega)).trans h.a_as, (va_up_ne _ _ (by omega)).trans h.a_so, va_up_self _ _ _, (va_up_ne _ _ (by omega)).trans h.a_sv, (va_up_ne _ _ (by omega)).trans h.a_tx, (va_up_ne _ _ (by omega)).trans h.a_kn, (va_up_ne _ _ (by omega)).trans h.a_lo⟩ (hFr.up hp) (zFr.up zFr.rf rfl)
theorem zp_M_sv {p : Program} {l : Launch} {e : Env} {R : Room} {s0 : State} {m : MethodId} {args : Array Value} {below : List Frame} {meth : Method} {c : Code} {H : Heap} {locs : List Loc} {cells slots : Nat} {Q : State → Prop} {D : va_G} {cy : Nat → ClassId} {K : Nat} {ad : Nat → Nat} {g g0 : Nat → va_E} {P : Nat → Prop} {A : Nat → Prop} {cc : ByteArray} {own : String} {nL pc9 : Nat} {ls : Array Slot} {rest : List Value} {n : Nat} {s : Nat → Int32} {as : Nat → Int32} {so : Nat → Int32} {ik : Nat → Int32} {sv : Nat → Int32} {tx : Nat → Int32} {kn : Nat → Int32} {lo : Nat → Int32} {th : Int32} {sm : Int32} {ln : Int32} {dg : Int64} (C0 : zC p s0 m args c meth cc nL own D cy A) (hP : zP D K ad g A H) (hS : va_S A s0.heap H locs) (h : isM cy K ad g n s as so ik sv tx kn lo th sm ln dg) (hFr : zFr P g0 g) (hp : P (n + 5)) {i9 : Int32} {v9 : Int32} {j9 : Nat} (hi : zIx i9 1338 j9) (hdg : decode cc pc9 = .ok (.iastore, 1))
    (kk : ∀ (g1 : Nat → va_E) (H1 : Heap) (locs1 : List Loc), zP D K ad g1 A H1 → va_S A s0.heap H1 locs1 → isM cy K ad g1 n s as so ik (upd sv j9 v9) tx kn lo th sm ln dg → zFr P g0 g1 → zFr (zOne (n + 5)) g g1 → W p l e R s0 m args below meth c H1 locs1 cells slots Q (F0 m (pc9 + 1) ls rest)) : W p l e R s0 m args below meth c H locs cells slots Q (F0 m pc9 ls (.int v9 :: .int i9 :: .ref (ad (n + 5)) :: rest)) := by
  have hs := h.1
  refine z_iast C0 hP hS h.n5 h.a_sv hi hdg (fun H1 locs1 h1 h2 => ?_)
  exact kk _ H1 locs1 h1 h2 ⟨h.1, (va_up_ne _ _ (by omega)).trans h.o, (va_up_ne _ _ (by omega)).trans h.a_s, (va_up_ne _ _ (by omega)).trans h.a_as, (va_up_ne _ _ (by omega)).trans h.a_so, (va_up_ne _ _ (by omega)).trans h.a_ik, va_up_self _ _ _, (va_up_ne _ _ (by omega)).trans h.a_tx, (va_up_ne _ _ (by omega)).trans h.a_kn, (va_up_ne _ _ (by omega)).trans h.a_lo⟩ (hFr.up hp) (zFr.up zFr.rf rfl)
theorem zp_M_tx {p : Program} {l : Launch} {e : Env} {R : Room} {s0 : State} {m : MethodId} {args : Array Value} {below : List Frame} {meth : Method} {c : Code} {H : Heap} {locs : List Loc} {cells slots : Nat} {Q : State → Prop} {D : va_G} {cy : Nat → ClassId} {K : Nat} {ad : Nat → Nat} {g g0 : Nat → va_E} {P : Nat → Prop} {A : Nat → Prop} {cc : ByteArray} {own : String} {nL pc9 : Nat} {ls : Array Slot} {rest : List Value} {n : Nat} {s : Nat → Int32} {as : Nat → Int32} {so : Nat → Int32} {ik : Nat → Int32} {sv : Nat → Int32} {tx : Nat → Int32} {kn : Nat → Int32} {lo : Nat → Int32} {th : Int32} {sm : Int32} {ln : Int32} {dg : Int64} (C0 : zC p s0 m args c meth cc nL own D cy A) (hP : zP D K ad g A H) (hS : va_S A s0.heap H locs) (h : isM cy K ad g n s as so ik sv tx kn lo th sm ln dg) (hFr : zFr P g0 g) (hp : P (n + 6)) {i9 : Int32} {v9 : Int32} {j9 : Nat} (hi : zIx i9 60 j9) (hdg : decode cc pc9 = .ok (.iastore, 1))
    (kk : ∀ (g1 : Nat → va_E) (H1 : Heap) (locs1 : List Loc), zP D K ad g1 A H1 → va_S A s0.heap H1 locs1 → isM cy K ad g1 n s as so ik sv (upd tx j9 v9) kn lo th sm ln dg → zFr P g0 g1 → zFr (zOne (n + 6)) g g1 → W p l e R s0 m args below meth c H1 locs1 cells slots Q (F0 m (pc9 + 1) ls rest)) : W p l e R s0 m args below meth c H locs cells slots Q (F0 m pc9 ls (.int v9 :: .int i9 :: .ref (ad (n + 6)) :: rest)) := by
  have hs := h.1
  refine z_iast C0 hP hS h.n6 h.a_tx hi hdg (fun H1 locs1 h1 h2 => ?_)
  exact kk _ H1 locs1 h1 h2 ⟨h.1, (va_up_ne _ _ (by omega)).trans h.o, (va_up_ne _ _ (by omega)).trans h.a_s, (va_up_ne _ _ (by omega)).trans h.a_as, (va_up_ne _ _ (by omega)).trans h.a_so, (va_up_ne _ _ (by omega)).trans h.a_ik, (va_up_ne _ _ (by omega)).trans h.a_sv, va_up_self _ _ _, (va_up_ne _ _ (by omega)).trans h.a_kn, (va_up_ne _ _ (by omega)).trans h.a_lo⟩ (hFr.up hp) (zFr.up zFr.rf rfl)
theorem zp_M_kn {p : Program} {l : Launch} {e : Env} {R : Room} {s0 : State} {m : MethodId} {args : Array Value} {below : List Frame} {meth : Method} {c : Code} {H : Heap} {locs : List Loc} {cells slots : Nat} {Q : State → Prop} {D : va_G} {cy : Nat → ClassId} {K : Nat} {ad : Nat → Nat} {g g0 : Nat → va_E} {P : Nat → Prop} {A : Nat → Prop} {cc : ByteArray} {own : String} {nL pc9 : Nat} {ls : Array Slot} {rest : List Value} {n : Nat} {s : Nat → Int32} {as : Nat → Int32} {so : Nat → Int32} {ik : Nat → Int32} {sv : Nat → Int32} {tx : Nat → Int32} {kn : Nat → Int32} {lo : Nat → Int32} {th : Int32} {sm : Int32} {ln : Int32} {dg : Int64} (C0 : zC p s0 m args c meth cc nL own D cy A) (hP : zP D K ad g A H) (hS : va_S A s0.heap H locs) (h : isM cy K ad g n s as so ik sv tx kn lo th sm ln dg) (hFr : zFr P g0 g) (hp : P (n + 7)) {i9 : Int32} {v9 : Int32} {j9 : Nat} (hi : zIx i9 6 j9) (hdg : decode cc pc9 = .ok (.iastore, 1))
    (kk : ∀ (g1 : Nat → va_E) (H1 : Heap) (locs1 : List Loc), zP D K ad g1 A H1 → va_S A s0.heap H1 locs1 → isM cy K ad g1 n s as so ik sv tx (upd kn j9 v9) lo th sm ln dg → zFr P g0 g1 → zFr (zOne (n + 7)) g g1 → W p l e R s0 m args below meth c H1 locs1 cells slots Q (F0 m (pc9 + 1) ls rest)) : W p l e R s0 m args below meth c H locs cells slots Q (F0 m pc9 ls (.int v9 :: .int i9 :: .ref (ad (n + 7)) :: rest)) := by
  have hs := h.1
  refine z_iast C0 hP hS h.n7 h.a_kn hi hdg (fun H1 locs1 h1 h2 => ?_)
  exact kk _ H1 locs1 h1 h2 ⟨h.1, (va_up_ne _ _ (by omega)).trans h.o, (va_up_ne _ _ (by omega)).trans h.a_s, (va_up_ne _ _ (by omega)).trans h.a_as, (va_up_ne _ _ (by omega)).trans h.a_so, (va_up_ne _ _ (by omega)).trans h.a_ik, (va_up_ne _ _ (by omega)).trans h.a_sv, (va_up_ne _ _ (by omega)).trans h.a_tx, va_up_self _ _ _, (va_up_ne _ _ (by omega)).trans h.a_lo⟩ (hFr.up hp) (zFr.up zFr.rf rfl)
theorem zp_M_lo {p : Program} {l : Launch} {e : Env} {R : Room} {s0 : State} {m : MethodId} {args : Array Value} {below : List Frame} {meth : Method} {c : Code} {H : Heap} {locs : List Loc} {cells slots : Nat} {Q : State → Prop} {D : va_G} {cy : Nat → ClassId} {K : Nat} {ad : Nat → Nat} {g g0 : Nat → va_E} {P : Nat → Prop} {A : Nat → Prop} {cc : ByteArray} {own : String} {nL pc9 : Nat} {ls : Array Slot} {rest : List Value} {n : Nat} {s : Nat → Int32} {as : Nat → Int32} {so : Nat → Int32} {ik : Nat → Int32} {sv : Nat → Int32} {tx : Nat → Int32} {kn : Nat → Int32} {lo : Nat → Int32} {th : Int32} {sm : Int32} {ln : Int32} {dg : Int64} (C0 : zC p s0 m args c meth cc nL own D cy A) (hP : zP D K ad g A H) (hS : va_S A s0.heap H locs) (h : isM cy K ad g n s as so ik sv tx kn lo th sm ln dg) (hFr : zFr P g0 g) (hp : P (n + 8)) {i9 : Int32} {v9 : Int32} {j9 : Nat} (hi : zIx i9 6 j9) (hdg : decode cc pc9 = .ok (.iastore, 1))
    (kk : ∀ (g1 : Nat → va_E) (H1 : Heap) (locs1 : List Loc), zP D K ad g1 A H1 → va_S A s0.heap H1 locs1 → isM cy K ad g1 n s as so ik sv tx kn (upd lo j9 v9) th sm ln dg → zFr P g0 g1 → zFr (zOne (n + 8)) g g1 → W p l e R s0 m args below meth c H1 locs1 cells slots Q (F0 m (pc9 + 1) ls rest)) : W p l e R s0 m args below meth c H locs cells slots Q (F0 m pc9 ls (.int v9 :: .int i9 :: .ref (ad (n + 8)) :: rest)) := by
  have hs := h.1
  refine z_iast C0 hP hS h.n8 h.a_lo hi hdg (fun H1 locs1 h1 h2 => ?_)
  exact kk _ H1 locs1 h1 h2 ⟨h.1, (va_up_ne _ _ (by omega)).trans h.o, (va_up_ne _ _ (by omega)).trans h.a_s, (va_up_ne _ _ (by omega)).trans h.a_as, (va_up_ne _ _ (by omega)).trans h.a_so, (va_up_ne _ _ (by omega)).trans h.a_ik, (va_up_ne _ _ (by omega)).trans h.a_sv, (va_up_ne _ _ (by omega)).trans h.a_tx, (va_up_ne _ _ (by omega)).trans h.a_kn, va_up_self _ _ _⟩ (hFr.up hp) (zFr.up zFr.rf rfl)
def isA (cy : Nat → ClassId) (K : Nat) (ad : Nat → Nat) (g : Nat → va_E) (n : Nat) (ln9 : Nat) (fn : Nat → Int32) : Prop := n + 1 ≤ K ∧ g n = .inl (cy 1, ln9, .inl fn)
theorem isA.n0 {cy : Nat → ClassId} {K : Nat} {ad : Nat → Nat} {g : Nat → va_E} {n : Nat} {ln9 : Nat} {fn : Nat → Int32} (h : isA cy K ad g n ln9 fn) : n < K := by have h1 := h.1; omega
theorem isA.a_fn {cy : Nat → ClassId} {K : Nat} {ad : Nat → Nat} {g : Nat → va_E} {n : Nat} {ln9 : Nat} {fn : Nat → Int32} (h : isA cy K ad g n ln9 fn) : g n = .inl (cy 1, ln9, .inl fn) := h.2
theorem isA.kept {cy : Nat → ClassId} {K : Nat} {ad : Nat → Nat} {g : Nat → va_E} {n : Nat} {ln9 : Nat} {fn : Nat → Int32} (h : isA cy K ad g n ln9 fn) {P : Nat → Prop} {g1 : Nat → va_E} (hf : zFr P g g1) (hd : ¬ P n) : isA cy K ad g1 n ln9 fn := ⟨h.1, (hf _ hd).trans h.a_fn⟩
theorem zp_A_fn {p : Program} {l : Launch} {e : Env} {R : Room} {s0 : State} {m : MethodId} {args : Array Value} {below : List Frame} {meth : Method} {c : Code} {H : Heap} {locs : List Loc} {cells slots : Nat} {Q : State → Prop} {D : va_G} {cy : Nat → ClassId} {K : Nat} {ad : Nat → Nat} {g g0 : Nat → va_E} {P : Nat → Prop} {A : Nat → Prop} {cc : ByteArray} {own : String} {nL pc9 : Nat} {ls : Array Slot} {rest : List Value} {n : Nat} {ln9 : Nat} {fn : Nat → Int32} (C0 : zC p s0 m args c meth cc nL own D cy A) (hP : zP D K ad g A H) (hS : va_S A s0.heap H locs) (h : isA cy K ad g n ln9 fn) (hFr : zFr P g0 g) (hp : P n) {i9 : Int32} {v9 : Int32} {j9 : Nat} (hi : zIx i9 ln9 j9) (hdg : decode cc pc9 = .ok (.iastore, 1))
    (kk : ∀ (g1 : Nat → va_E) (H1 : Heap) (locs1 : List Loc), zP D K ad g1 A H1 → va_S A s0.heap H1 locs1 → isA cy K ad g1 n ln9 (upd fn j9 v9) → zFr P g0 g1 → zFr (zOne n) g g1 → W p l e R s0 m args below meth c H1 locs1 cells slots Q (F0 m (pc9 + 1) ls rest)) : W p l e R s0 m args below meth c H locs cells slots Q (F0 m pc9 ls (.int v9 :: .int i9 :: .ref (ad n) :: rest)) := by
  have hs := h.1
  refine z_iast C0 hP hS h.n0 h.a_fn hi hdg (fun H1 locs1 h1 h2 => ?_)
  exact kk _ H1 locs1 h1 h2 ⟨h.1, va_up_self _ _ _⟩ (hFr.up hp) (zFr.up zFr.rf rfl)
def isO (cy : Nat → ClassId) (K : Nat) (ad : Nat → Nat) (g : Nat → va_E) (n : Nat) (ou : Nat → Int64) : Prop := n + 1 ≤ K ∧ g n = .inl (cy 5, 1, .inr (.inl ou))
theorem isO.n0 {cy : Nat → ClassId} {K : Nat} {ad : Nat → Nat} {g : Nat → va_E} {n : Nat} {ou : Nat → Int64} (h : isO cy K ad g n ou) : n < K := by have h1 := h.1; omega
theorem isO.a_ou {cy : Nat → ClassId} {K : Nat} {ad : Nat → Nat} {g : Nat → va_E} {n : Nat} {ou : Nat → Int64} (h : isO cy K ad g n ou) : g n = .inl (cy 5, 1, .inr (.inl ou)) := h.2
theorem isO.kept {cy : Nat → ClassId} {K : Nat} {ad : Nat → Nat} {g : Nat → va_E} {n : Nat} {ou : Nat → Int64} (h : isO cy K ad g n ou) {P : Nat → Prop} {g1 : Nat → va_E} (hf : zFr P g g1) (hd : ¬ P n) : isO cy K ad g1 n ou := ⟨h.1, (hf _ hd).trans h.a_ou⟩
theorem zp_O_ou {p : Program} {l : Launch} {e : Env} {R : Room} {s0 : State} {m : MethodId} {args : Array Value} {below : List Frame} {meth : Method} {c : Code} {H : Heap} {locs : List Loc} {cells slots : Nat} {Q : State → Prop} {D : va_G} {cy : Nat → ClassId} {K : Nat} {ad : Nat → Nat} {g g0 : Nat → va_E} {P : Nat → Prop} {A : Nat → Prop} {cc : ByteArray} {own : String} {nL pc9 : Nat} {ls : Array Slot} {rest : List Value} {n : Nat} {ou : Nat → Int64} (C0 : zC p s0 m args c meth cc nL own D cy A) (hP : zP D K ad g A H) (hS : va_S A s0.heap H locs) (h : isO cy K ad g n ou) (hFr : zFr P g0 g) (hp : P n) {i9 : Int32} {v9 : Int64} {j9 : Nat} (hi : zIx i9 1 j9) (hdg : decode cc pc9 = .ok (.lastore, 1))
    (kk : ∀ (g1 : Nat → va_E) (H1 : Heap) (locs1 : List Loc), zP D K ad g1 A H1 → va_S A s0.heap H1 locs1 → isO cy K ad g1 n (vp_updL ou j9 v9) → zFr P g0 g1 → zFr (zOne n) g g1 → W p l e R s0 m args below meth c H1 locs1 cells slots Q (F0 m (pc9 + 1) ls rest)) : W p l e R s0 m args below meth c H locs cells slots Q (F0 m pc9 ls (.long v9 :: .int i9 :: .ref (ad n) :: rest)) := by
  have hs := h.1
  refine z_last C0 hP hS h.n0 h.a_ou hi hdg (fun H1 locs1 h1 h2 => ?_)
  exact kk _ H1 locs1 h1 h2 ⟨h.1, va_up_self _ _ _⟩ (hFr.up hp) (zFr.up zFr.rf rfl)
theorem isA.of {cy : Nat → ClassId} {K : Nat} {ad : Nat → Nat} {g : Nat → va_E} {n ln9 : Nat} {fn : Nat → Int32} (h1 : n < K) (h2 : g n = .inl (cy 1, ln9, .inl fn)) : isA cy K ad g n ln9 fn := ⟨h1, h2⟩
end
section
section ZQ2
variable {p : Program} {l : Launch} {e : Env} {R : Room} {s : State} {m : MethodId} {args : Array Value} {below : List Frame} {meth : Method} {c : Code} {H : Heap} {locs : List Loc} {cells slots : Nat} {Q : State → Prop}
variable {D : va_G} {cy : Nat → ClassId} {K : Nat} {ad : Nat → Nat} {g : Nat → va_E} {A : Nat → Prop} {cc : ByteArray} {own : String} {nL pc : Nat} {ls : Array Slot} {rest : List Value}
theorem z_topi {x y : Int32} (h : x = y) (k : W p l e R s m args below meth c H locs cells slots Q (F0 m pc ls (.int y :: rest))) : W p l e R s m args below meth c H locs cells slots Q (F0 m pc ls (.int x :: rest)) := h ▸ k
theorem z_topl {x y : Int64} (h : x = y) (k : W p l e R s m args below meth c H locs cells slots Q (F0 m pc ls (.long y :: rest))) : W p l e R s m args below meth c H locs cells slots Q (F0 m pc ls (.long x :: rest)) := h ▸ k
theorem z_top2i {x y : Int32} {v : Value} (h : x = y) (k : W p l e R s m args below meth c H locs cells slots Q (F0 m pc ls (v :: .int y :: rest))) : W p l e R s m args below meth c H locs cells slots Q (F0 m pc ls (v :: .int x :: rest)) := h ▸ k
theorem z_inc (j : Nat) : nI j + Int32.ofInt 1 = nI (j + 1) := nI_1 j
theorem z_inc4 (j : Nat) : nI j + Int32.ofInt 4 = nI (j + 4) := nI_add j 4
theorem z_incx (x : Int32) : x + Int32.ofInt 1 = x + 1 := rfl
theorem z_decx (x : Int32) : x + Int32.ofInt (-1) = x - 1 := by rw [Int32.sub_eq_add_neg]; rfl
theorem z_ge_t {j b : Nat} (h : nI b ≤ nI j) (hj : j < 2 ^ 31) (hb : b < 2 ^ 31) : b ≤ j := (nI_leI hb hj).mp h
theorem z_ge_f {j b : Nat} (h : ¬ nI b ≤ nI j) (hj : j < 2 ^ 31) (hb : b < 2 ^ 31) : j < b := by
  rcases Nat.lt_or_ge j b with q | q
  · exact q
  · exact absurd ((nI_leI hb hj).mpr q) h
theorem z_lt_t {j b : Nat} (h : nI j < nI b) (hj : j < 2 ^ 31) (hb : b < 2 ^ 31) : j < b := (nI_ltI hj hb).mp h
theorem z_lt_f {j b : Nat} (h : ¬ nI j < nI b) (hj : j < 2 ^ 31) (hb : b < 2 ^ 31) : b ≤ j := by
  rcases Nat.lt_or_ge j b with q | q
  · exact absurd ((nI_ltI hj hb).mpr q) h
  · exact q

theorem z_Vi_eq (C0 : zC p s m args c meth cc nL own D cy A) (hP : zP D K ad g A H) (hS : va_S A s.heap H locs) (hsz : ls.size = nL) {st0 As : List Value} {y : MethodName} {bytes : ByteArray} {maxL index ci b k : Nat} {ret : Option FieldType} {fs : List Value} {rm : Room} {X : Int32}
    (hM : Met l y (zs y bytes maxL ret) rm (va_Pc (.ref (ad b) :: As) (zIn D cy K ad g H.size)) (va_Qi (fun r g1 => g1 = g ∧ r = X) (zOut D cy K ad H.size) (zA K ad H.size)) 0 0 (zA K ad H.size)) (hL : zLv own index ci y bytes maxL ret k) (hn : b < K) (he : g b = .inr (ci, fs)) (hlen : As.length = k) (hst : st0 = As.reverse ++ .ref (ad b) :: rest) (hrest : (rest.map fun v => v.category).sum ≤ 8) (hR : rm.frames + 1 ≤ R.frames ∧ 8 + (maxL + 11) + rm.locals ≤ R.locals) (hrc : rm.cells = 0) (hrs : rm.slots = 0) (hf : cells ≤ R.cells ∧ slots ≤ R.slots) (hdg : decode cc pc = .ok (.invokevirtual index, 3))
    (kk : ∀ (H1 : Heap) (locs1 : List Loc), zP D K ad g A H1 → va_S A s.heap H1 locs1 → W p l e R s m args below meth c H1 locs1 cells slots Q (F0 m (pc + 3) ls (.int X :: rest))) : W p l e R s m args below meth c H locs cells slots Q (F0 m pc ls st0) :=
  z_calli C0 hP hS (z_runV (As := As) (rest := rest) C0 hP hsz hM hL hn he hlen hst hrest hrc hrs hR hf hdg) (fun r g1 H1 locs1 h1 h2 h3 => by
    obtain ⟨rfl, rfl⟩ := h3
    exact kk H1 locs1 h1 h2)
theorem z_Vi_ro (C0 : zC p s m args c meth cc nL own D cy A) (hP : zP D K ad g A H) (hS : va_S A s.heap H locs) (hsz : ls.size = nL) {st0 As : List Value} {y : MethodName} {bytes : ByteArray} {maxL index ci b k : Nat} {ret : Option FieldType} {fs : List Value} {rm : Room} {ψ : Int32 → Prop}
    (hM : Met l y (zs y bytes maxL ret) rm (va_Pc (.ref (ad b) :: As) (zIn D cy K ad g H.size)) (va_Qi (fun r g1 => g1 = g ∧ ψ r) (zOut D cy K ad H.size) (zA K ad H.size)) 0 0 (zA K ad H.size)) (hL : zLv own index ci y bytes maxL ret k) (hn : b < K) (he : g b = .inr (ci, fs)) (hlen : As.length = k) (hst : st0 = As.reverse ++ .ref (ad b) :: rest) (hrest : (rest.map fun v => v.category).sum ≤ 8) (hR : rm.frames + 1 ≤ R.frames ∧ 8 + (maxL + 11) + rm.locals ≤ R.locals) (hrc : rm.cells = 0) (hrs : rm.slots = 0) (hf : cells ≤ R.cells ∧ slots ≤ R.slots) (hdg : decode cc pc = .ok (.invokevirtual index, 3))
    (kk : ∀ (r : Int32) (H1 : Heap) (locs1 : List Loc), zP D K ad g A H1 → va_S A s.heap H1 locs1 → ψ r → W p l e R s m args below meth c H1 locs1 cells slots Q (F0 m (pc + 3) ls (.int r :: rest))) : W p l e R s m args below meth c H locs cells slots Q (F0 m pc ls st0) :=
  z_calli C0 hP hS (z_runV (As := As) (rest := rest) C0 hP hsz hM hL hn he hlen hst hrest hrc hrs hR hf hdg) (fun r g1 H1 locs1 h1 h2 h3 => by
    obtain ⟨rfl, h3⟩ := h3
    exact kk r H1 locs1 h1 h2 h3)
theorem z_Vi_mo (C0 : zC p s m args c meth cc nL own D cy A) (hP : zP D K ad g A H) (hS : va_S A s.heap H locs) (hsz : ls.size = nL) {st0 As : List Value} {y : MethodName} {bytes : ByteArray} {maxL index ci b k : Nat} {ret : Option FieldType} {fs : List Value} {rm : Room} {post : Int32 → (Nat → va_E) → Prop}
    (hM : Met l y (zs y bytes maxL ret) rm (va_Pc (.ref (ad b) :: As) (zIn D cy K ad g H.size)) (va_Qi post (zOut D cy K ad H.size) (zA K ad H.size)) 0 0 (zA K ad H.size)) (hL : zLv own index ci y bytes maxL ret k) (hn : b < K) (he : g b = .inr (ci, fs)) (hlen : As.length = k) (hst : st0 = As.reverse ++ .ref (ad b) :: rest) (hrest : (rest.map fun v => v.category).sum ≤ 8) (hR : rm.frames + 1 ≤ R.frames ∧ 8 + (maxL + 11) + rm.locals ≤ R.locals) (hrc : rm.cells = 0) (hrs : rm.slots = 0) (hf : cells ≤ R.cells ∧ slots ≤ R.slots) (hdg : decode cc pc = .ok (.invokevirtual index, 3))
    (kk : ∀ (r : Int32) (g1 : Nat → va_E) (H1 : Heap) (locs1 : List Loc), zP D K ad g1 A H1 → va_S A s.heap H1 locs1 → post r g1 → W p l e R s m args below meth c H1 locs1 cells slots Q (F0 m (pc + 3) ls (.int r :: rest))) : W p l e R s m args below meth c H locs cells slots Q (F0 m pc ls st0) :=
  z_calli C0 hP hS (z_runV (As := As) (rest := rest) C0 hP hsz hM hL hn he hlen hst hrest hrc hrs hR hf hdg) kk
theorem z_Vl_eq (C0 : zC p s m args c meth cc nL own D cy A) (hP : zP D K ad g A H) (hS : va_S A s.heap H locs) (hsz : ls.size = nL) {st0 As : List Value} {y : MethodName} {bytes : ByteArray} {maxL index ci b k : Nat} {ret : Option FieldType} {fs : List Value} {rm : Room} {X : Int64}
    (hM : Met l y (zs y bytes maxL ret) rm (va_Pc (.ref (ad b) :: As) (zIn D cy K ad g H.size)) (va_Ql (fun r g1 => g1 = g ∧ r = X) (zOut D cy K ad H.size) (zA K ad H.size)) 0 0 (zA K ad H.size)) (hL : zLv own index ci y bytes maxL ret k) (hn : b < K) (he : g b = .inr (ci, fs)) (hlen : As.length = k) (hst : st0 = As.reverse ++ .ref (ad b) :: rest) (hrest : (rest.map fun v => v.category).sum ≤ 8) (hR : rm.frames + 1 ≤ R.frames ∧ 8 + (maxL + 11) + rm.locals ≤ R.locals) (hrc : rm.cells = 0) (hrs : rm.slots = 0) (hf : cells ≤ R.cells ∧ slots ≤ R.slots) (hdg : decode cc pc = .ok (.invokevirtual index, 3))
    (kk : ∀ (H1 : Heap) (locs1 : List Loc), zP D K ad g A H1 → va_S A s.heap H1 locs1 → W p l e R s m args below meth c H1 locs1 cells slots Q (F0 m (pc + 3) ls (.long X :: rest))) : W p l e R s m args below meth c H locs cells slots Q (F0 m pc ls st0) :=
  z_calll C0 hP hS (z_runV (As := As) (rest := rest) C0 hP hsz hM hL hn he hlen hst hrest hrc hrs hR hf hdg) (fun r g1 H1 locs1 h1 h2 h3 => by
    obtain ⟨rfl, rfl⟩ := h3
    exact kk H1 locs1 h1 h2)
theorem z_Vl_ro (C0 : zC p s m args c meth cc nL own D cy A) (hP : zP D K ad g A H) (hS : va_S A s.heap H locs) (hsz : ls.size = nL) {st0 As : List Value} {y : MethodName} {bytes : ByteArray} {maxL index ci b k : Nat} {ret : Option FieldType} {fs : List Value} {rm : Room} {ψ : Int64 → Prop}
    (hM : Met l y (zs y bytes maxL ret) rm (va_Pc (.ref (ad b) :: As) (zIn D cy K ad g H.size)) (va_Ql (fun r g1 => g1 = g ∧ ψ r) (zOut D cy K ad H.size) (zA K ad H.size)) 0 0 (zA K ad H.size)) (hL : zLv own index ci y bytes maxL ret k) (hn : b < K) (he : g b = .inr (ci, fs)) (hlen : As.length = k) (hst : st0 = As.reverse ++ .ref (ad b) :: rest) (hrest : (rest.map fun v => v.category).sum ≤ 8) (hR : rm.frames + 1 ≤ R.frames ∧ 8 + (maxL + 11) + rm.locals ≤ R.locals) (hrc : rm.cells = 0) (hrs : rm.slots = 0) (hf : cells ≤ R.cells ∧ slots ≤ R.slots) (hdg : decode cc pc = .ok (.invokevirtual index, 3))
    (kk : ∀ (r : Int64) (H1 : Heap) (locs1 : List Loc), zP D K ad g A H1 → va_S A s.heap H1 locs1 → ψ r → W p l e R s m args below meth c H1 locs1 cells slots Q (F0 m (pc + 3) ls (.long r :: rest))) : W p l e R s m args below meth c H locs cells slots Q (F0 m pc ls st0) :=
  z_calll C0 hP hS (z_runV (As := As) (rest := rest) C0 hP hsz hM hL hn he hlen hst hrest hrc hrs hR hf hdg) (fun r g1 H1 locs1 h1 h2 h3 => by
    obtain ⟨rfl, h3⟩ := h3
    exact kk r H1 locs1 h1 h2 h3)
theorem z_Vl_mo (C0 : zC p s m args c meth cc nL own D cy A) (hP : zP D K ad g A H) (hS : va_S A s.heap H locs) (hsz : ls.size = nL) {st0 As : List Value} {y : MethodName} {bytes : ByteArray} {maxL index ci b k : Nat} {ret : Option FieldType} {fs : List Value} {rm : Room} {post : Int64 → (Nat → va_E) → Prop}
    (hM : Met l y (zs y bytes maxL ret) rm (va_Pc (.ref (ad b) :: As) (zIn D cy K ad g H.size)) (va_Ql post (zOut D cy K ad H.size) (zA K ad H.size)) 0 0 (zA K ad H.size)) (hL : zLv own index ci y bytes maxL ret k) (hn : b < K) (he : g b = .inr (ci, fs)) (hlen : As.length = k) (hst : st0 = As.reverse ++ .ref (ad b) :: rest) (hrest : (rest.map fun v => v.category).sum ≤ 8) (hR : rm.frames + 1 ≤ R.frames ∧ 8 + (maxL + 11) + rm.locals ≤ R.locals) (hrc : rm.cells = 0) (hrs : rm.slots = 0) (hf : cells ≤ R.cells ∧ slots ≤ R.slots) (hdg : decode cc pc = .ok (.invokevirtual index, 3))
    (kk : ∀ (r : Int64) (g1 : Nat → va_E) (H1 : Heap) (locs1 : List Loc), zP D K ad g1 A H1 → va_S A s.heap H1 locs1 → post r g1 → W p l e R s m args below meth c H1 locs1 cells slots Q (F0 m (pc + 3) ls (.long r :: rest))) : W p l e R s m args below meth c H locs cells slots Q (F0 m pc ls st0) :=
  z_calll C0 hP hS (z_runV (As := As) (rest := rest) C0 hP hsz hM hL hn he hlen hst hrest hrc hrs hR hf hdg) kk
theorem z_Vd_eq (C0 : zC p s m args c meth cc nL own D cy A) (hP : zP D K ad g A H) (hS : va_S A s.heap H locs) (hsz : ls.size = nL) {st0 As : List Value} {y : MethodName} {bytes : ByteArray} {maxL index ci b k : Nat} {ret : Option FieldType} {fs : List Value} {rm : Room} {X : UInt64}
    (hM : Met l y (zs y bytes maxL ret) rm (va_Pc (.ref (ad b) :: As) (zIn D cy K ad g H.size)) (va_Qd (fun r g1 => g1 = g ∧ r = X) (zOut D cy K ad H.size) (zA K ad H.size)) 0 0 (zA K ad H.size)) (hL : zLv own index ci y bytes maxL ret k) (hn : b < K) (he : g b = .inr (ci, fs)) (hlen : As.length = k) (hst : st0 = As.reverse ++ .ref (ad b) :: rest) (hrest : (rest.map fun v => v.category).sum ≤ 8) (hR : rm.frames + 1 ≤ R.frames ∧ 8 + (maxL + 11) + rm.locals ≤ R.locals) (hrc : rm.cells = 0) (hrs : rm.slots = 0) (hf : cells ≤ R.cells ∧ slots ≤ R.slots) (hdg : decode cc pc = .ok (.invokevirtual index, 3))
    (kk : ∀ (H1 : Heap) (locs1 : List Loc), zP D K ad g A H1 → va_S A s.heap H1 locs1 → W p l e R s m args below meth c H1 locs1 cells slots Q (F0 m (pc + 3) ls (.double X :: rest))) : W p l e R s m args below meth c H locs cells slots Q (F0 m pc ls st0) :=
  z_calld C0 hP hS (z_runV (As := As) (rest := rest) C0 hP hsz hM hL hn he hlen hst hrest hrc hrs hR hf hdg) (fun r g1 H1 locs1 h1 h2 h3 => by
    obtain ⟨rfl, rfl⟩ := h3
    exact kk H1 locs1 h1 h2)
theorem z_Vd_ro (C0 : zC p s m args c meth cc nL own D cy A) (hP : zP D K ad g A H) (hS : va_S A s.heap H locs) (hsz : ls.size = nL) {st0 As : List Value} {y : MethodName} {bytes : ByteArray} {maxL index ci b k : Nat} {ret : Option FieldType} {fs : List Value} {rm : Room} {ψ : UInt64 → Prop}
    (hM : Met l y (zs y bytes maxL ret) rm (va_Pc (.ref (ad b) :: As) (zIn D cy K ad g H.size)) (va_Qd (fun r g1 => g1 = g ∧ ψ r) (zOut D cy K ad H.size) (zA K ad H.size)) 0 0 (zA K ad H.size)) (hL : zLv own index ci y bytes maxL ret k) (hn : b < K) (he : g b = .inr (ci, fs)) (hlen : As.length = k) (hst : st0 = As.reverse ++ .ref (ad b) :: rest) (hrest : (rest.map fun v => v.category).sum ≤ 8) (hR : rm.frames + 1 ≤ R.frames ∧ 8 + (maxL + 11) + rm.locals ≤ R.locals) (hrc : rm.cells = 0) (hrs : rm.slots = 0) (hf : cells ≤ R.cells ∧ slots ≤ R.slots) (hdg : decode cc pc = .ok (.invokevirtual index, 3))
    (kk : ∀ (r : UInt64) (H1 : Heap) (locs1 : List Loc), zP D K ad g A H1 → va_S A s.heap H1 locs1 → ψ r → W p l e R s m args below meth c H1 locs1 cells slots Q (F0 m (pc + 3) ls (.double r :: rest))) : W p l e R s m args below meth c H locs cells slots Q (F0 m pc ls st0) :=
  z_calld C0 hP hS (z_runV (As := As) (rest := rest) C0 hP hsz hM hL hn he hlen hst hrest hrc hrs hR hf hdg) (fun r g1 H1 locs1 h1 h2 h3 => by
    obtain ⟨rfl, h3⟩ := h3
    exact kk r H1 locs1 h1 h2 h3)
theorem z_Vd_mo (C0 : zC p s m args c meth cc nL own D cy A) (hP : zP D K ad g A H) (hS : va_S A s.heap H locs) (hsz : ls.size = nL) {st0 As : List Value} {y : MethodName} {bytes : ByteArray} {maxL index ci b k : Nat} {ret : Option FieldType} {fs : List Value} {rm : Room} {post : UInt64 → (Nat → va_E) → Prop}
    (hM : Met l y (zs y bytes maxL ret) rm (va_Pc (.ref (ad b) :: As) (zIn D cy K ad g H.size)) (va_Qd post (zOut D cy K ad H.size) (zA K ad H.size)) 0 0 (zA K ad H.size)) (hL : zLv own index ci y bytes maxL ret k) (hn : b < K) (he : g b = .inr (ci, fs)) (hlen : As.length = k) (hst : st0 = As.reverse ++ .ref (ad b) :: rest) (hrest : (rest.map fun v => v.category).sum ≤ 8) (hR : rm.frames + 1 ≤ R.frames ∧ 8 + (maxL + 11) + rm.locals ≤ R.locals) (hrc : rm.cells = 0) (hrs : rm.slots = 0) (hf : cells ≤ R.cells ∧ slots ≤ R.slots) (hdg : decode cc pc = .ok (.invokevirtual index, 3))
    (kk : ∀ (r : UInt64) (g1 : Nat → va_E) (H1 : Heap) (locs1 : List Loc), zP D K ad g1 A H1 → va_S A s.heap H1 locs1 → post r g1 → W p l e R s m args below meth c H1 locs1 cells slots Q (F0 m (pc + 3) ls (.double r :: rest))) : W p l e R s m args below meth c H locs cells slots Q (F0 m pc ls st0) :=
  z_calld C0 hP hS (z_runV (As := As) (rest := rest) C0 hP hsz hM hL hn he hlen hst hrest hrc hrs hR hf hdg) kk
theorem z_Vv_mo (C0 : zC p s m args c meth cc nL own D cy A) (hP : zP D K ad g A H) (hS : va_S A s.heap H locs) (hsz : ls.size = nL) {st0 As : List Value} {y : MethodName} {bytes : ByteArray} {maxL index ci b k : Nat} {ret : Option FieldType} {fs : List Value} {rm : Room} {post : (Nat → va_E) → Prop}
    (hM : Met l y (zs y bytes maxL ret) rm (va_Pc (.ref (ad b) :: As) (zIn D cy K ad g H.size)) (va_Qv post (zOut D cy K ad H.size) (zA K ad H.size)) 0 0 (zA K ad H.size)) (hL : zLv own index ci y bytes maxL ret k) (hn : b < K) (he : g b = .inr (ci, fs)) (hlen : As.length = k) (hst : st0 = As.reverse ++ .ref (ad b) :: rest) (hrest : (rest.map fun v => v.category).sum ≤ 8) (hR : rm.frames + 1 ≤ R.frames ∧ 8 + (maxL + 11) + rm.locals ≤ R.locals) (hrc : rm.cells = 0) (hrs : rm.slots = 0) (hf : cells ≤ R.cells ∧ slots ≤ R.slots) (hdg : decode cc pc = .ok (.invokevirtual index, 3))
    (kk : ∀ (g1 : Nat → va_E) (H1 : Heap) (locs1 : List Loc), zP D K ad g1 A H1 → va_S A s.heap H1 locs1 → post g1 → W p l e R s m args below meth c H1 locs1 cells slots Q (F0 m (pc + 3) ls rest)) : W p l e R s m args below meth c H locs cells slots Q (F0 m pc ls st0) :=
  z_callv C0 hP hS (z_runV (As := As) (rest := rest) C0 hP hsz hM hL hn he hlen hst hrest hrc hrs hR hf hdg) kk
theorem z_Si_eq (C0 : zC p s m args c meth cc nL own D cy A) (hP : zP D K ad g A H) (hS : va_S A s.heap H locs) (hsz : ls.size = nL) {st0 As : List Value} {y : MethodName} {bytes : ByteArray} {maxL index k : Nat} {ret : Option FieldType} {rm : Room} {X : Int32}
    (hM : Met l y (zs y bytes maxL ret) rm (va_Pc As (zIn D cy K ad g H.size)) (va_Qi (fun r g1 => g1 = g ∧ r = X) (zOut D cy K ad H.size) (zA K ad H.size)) 0 0 (zA K ad H.size)) (hL : zLs own index y bytes maxL ret k) (hlen : As.length = k) (hst : st0 = As.reverse ++ rest) (hrest : (rest.map fun v => v.category).sum ≤ 8) (hR : rm.frames + 1 ≤ R.frames ∧ 8 + (maxL + 11) + rm.locals ≤ R.locals) (hrc : rm.cells = 0) (hrs : rm.slots = 0) (hf : cells ≤ R.cells ∧ slots ≤ R.slots) (hdg : decode cc pc = .ok (.invokestatic index, 3))
    (kk : ∀ (H1 : Heap) (locs1 : List Loc), zP D K ad g A H1 → va_S A s.heap H1 locs1 → W p l e R s m args below meth c H1 locs1 cells slots Q (F0 m (pc + 3) ls (.int X :: rest))) : W p l e R s m args below meth c H locs cells slots Q (F0 m pc ls st0) :=
  z_calli C0 hP hS (z_runS (As := As) (rest := rest) C0 hP hsz hM hL hlen hst hrest hrc hrs hR hf hdg) (fun r g1 H1 locs1 h1 h2 h3 => by
    obtain ⟨rfl, rfl⟩ := h3
    exact kk H1 locs1 h1 h2)
theorem z_Si_ro (C0 : zC p s m args c meth cc nL own D cy A) (hP : zP D K ad g A H) (hS : va_S A s.heap H locs) (hsz : ls.size = nL) {st0 As : List Value} {y : MethodName} {bytes : ByteArray} {maxL index k : Nat} {ret : Option FieldType} {rm : Room} {ψ : Int32 → Prop}
    (hM : Met l y (zs y bytes maxL ret) rm (va_Pc As (zIn D cy K ad g H.size)) (va_Qi (fun r g1 => g1 = g ∧ ψ r) (zOut D cy K ad H.size) (zA K ad H.size)) 0 0 (zA K ad H.size)) (hL : zLs own index y bytes maxL ret k) (hlen : As.length = k) (hst : st0 = As.reverse ++ rest) (hrest : (rest.map fun v => v.category).sum ≤ 8) (hR : rm.frames + 1 ≤ R.frames ∧ 8 + (maxL + 11) + rm.locals ≤ R.locals) (hrc : rm.cells = 0) (hrs : rm.slots = 0) (hf : cells ≤ R.cells ∧ slots ≤ R.slots) (hdg : decode cc pc = .ok (.invokestatic index, 3))
    (kk : ∀ (r : Int32) (H1 : Heap) (locs1 : List Loc), zP D K ad g A H1 → va_S A s.heap H1 locs1 → ψ r → W p l e R s m args below meth c H1 locs1 cells slots Q (F0 m (pc + 3) ls (.int r :: rest))) : W p l e R s m args below meth c H locs cells slots Q (F0 m pc ls st0) :=
  z_calli C0 hP hS (z_runS (As := As) (rest := rest) C0 hP hsz hM hL hlen hst hrest hrc hrs hR hf hdg) (fun r g1 H1 locs1 h1 h2 h3 => by
    obtain ⟨rfl, h3⟩ := h3
    exact kk r H1 locs1 h1 h2 h3)
theorem z_Si_mo (C0 : zC p s m args c meth cc nL own D cy A) (hP : zP D K ad g A H) (hS : va_S A s.heap H locs) (hsz : ls.size = nL) {st0 As : List Value} {y : MethodName} {bytes : ByteArray} {maxL index k : Nat} {ret : Option FieldType} {rm : Room} {post : Int32 → (Nat → va_E) → Prop}
    (hM : Met l y (zs y bytes maxL ret) rm (va_Pc As (zIn D cy K ad g H.size)) (va_Qi post (zOut D cy K ad H.size) (zA K ad H.size)) 0 0 (zA K ad H.size)) (hL : zLs own index y bytes maxL ret k) (hlen : As.length = k) (hst : st0 = As.reverse ++ rest) (hrest : (rest.map fun v => v.category).sum ≤ 8) (hR : rm.frames + 1 ≤ R.frames ∧ 8 + (maxL + 11) + rm.locals ≤ R.locals) (hrc : rm.cells = 0) (hrs : rm.slots = 0) (hf : cells ≤ R.cells ∧ slots ≤ R.slots) (hdg : decode cc pc = .ok (.invokestatic index, 3))
    (kk : ∀ (r : Int32) (g1 : Nat → va_E) (H1 : Heap) (locs1 : List Loc), zP D K ad g1 A H1 → va_S A s.heap H1 locs1 → post r g1 → W p l e R s m args below meth c H1 locs1 cells slots Q (F0 m (pc + 3) ls (.int r :: rest))) : W p l e R s m args below meth c H locs cells slots Q (F0 m pc ls st0) :=
  z_calli C0 hP hS (z_runS (As := As) (rest := rest) C0 hP hsz hM hL hlen hst hrest hrc hrs hR hf hdg) kk
theorem z_Sl_eq (C0 : zC p s m args c meth cc nL own D cy A) (hP : zP D K ad g A H) (hS : va_S A s.heap H locs) (hsz : ls.size = nL) {st0 As : List Value} {y : MethodName} {bytes : ByteArray} {maxL index k : Nat} {ret : Option FieldType} {rm : Room} {X : Int64}
    (hM : Met l y (zs y bytes maxL ret) rm (va_Pc As (zIn D cy K ad g H.size)) (va_Ql (fun r g1 => g1 = g ∧ r = X) (zOut D cy K ad H.size) (zA K ad H.size)) 0 0 (zA K ad H.size)) (hL : zLs own index y bytes maxL ret k) (hlen : As.length = k) (hst : st0 = As.reverse ++ rest) (hrest : (rest.map fun v => v.category).sum ≤ 8) (hR : rm.frames + 1 ≤ R.frames ∧ 8 + (maxL + 11) + rm.locals ≤ R.locals) (hrc : rm.cells = 0) (hrs : rm.slots = 0) (hf : cells ≤ R.cells ∧ slots ≤ R.slots) (hdg : decode cc pc = .ok (.invokestatic index, 3))
    (kk : ∀ (H1 : Heap) (locs1 : List Loc), zP D K ad g A H1 → va_S A s.heap H1 locs1 → W p l e R s m args below meth c H1 locs1 cells slots Q (F0 m (pc + 3) ls (.long X :: rest))) : W p l e R s m args below meth c H locs cells slots Q (F0 m pc ls st0) :=
  z_calll C0 hP hS (z_runS (As := As) (rest := rest) C0 hP hsz hM hL hlen hst hrest hrc hrs hR hf hdg) (fun r g1 H1 locs1 h1 h2 h3 => by
    obtain ⟨rfl, rfl⟩ := h3
    exact kk H1 locs1 h1 h2)
theorem z_Sl_ro (C0 : zC p s m args c meth cc nL own D cy A) (hP : zP D K ad g A H) (hS : va_S A s.heap H locs) (hsz : ls.size = nL) {st0 As : List Value} {y : MethodName} {bytes : ByteArray} {maxL index k : Nat} {ret : Option FieldType} {rm : Room} {ψ : Int64 → Prop}
    (hM : Met l y (zs y bytes maxL ret) rm (va_Pc As (zIn D cy K ad g H.size)) (va_Ql (fun r g1 => g1 = g ∧ ψ r) (zOut D cy K ad H.size) (zA K ad H.size)) 0 0 (zA K ad H.size)) (hL : zLs own index y bytes maxL ret k) (hlen : As.length = k) (hst : st0 = As.reverse ++ rest) (hrest : (rest.map fun v => v.category).sum ≤ 8) (hR : rm.frames + 1 ≤ R.frames ∧ 8 + (maxL + 11) + rm.locals ≤ R.locals) (hrc : rm.cells = 0) (hrs : rm.slots = 0) (hf : cells ≤ R.cells ∧ slots ≤ R.slots) (hdg : decode cc pc = .ok (.invokestatic index, 3))
    (kk : ∀ (r : Int64) (H1 : Heap) (locs1 : List Loc), zP D K ad g A H1 → va_S A s.heap H1 locs1 → ψ r → W p l e R s m args below meth c H1 locs1 cells slots Q (F0 m (pc + 3) ls (.long r :: rest))) : W p l e R s m args below meth c H locs cells slots Q (F0 m pc ls st0) :=
  z_calll C0 hP hS (z_runS (As := As) (rest := rest) C0 hP hsz hM hL hlen hst hrest hrc hrs hR hf hdg) (fun r g1 H1 locs1 h1 h2 h3 => by
    obtain ⟨rfl, h3⟩ := h3
    exact kk r H1 locs1 h1 h2 h3)
theorem z_Sl_mo (C0 : zC p s m args c meth cc nL own D cy A) (hP : zP D K ad g A H) (hS : va_S A s.heap H locs) (hsz : ls.size = nL) {st0 As : List Value} {y : MethodName} {bytes : ByteArray} {maxL index k : Nat} {ret : Option FieldType} {rm : Room} {post : Int64 → (Nat → va_E) → Prop}
    (hM : Met l y (zs y bytes maxL ret) rm (va_Pc As (zIn D cy K ad g H.size)) (va_Ql post (zOut D cy K ad H.size) (zA K ad H.size)) 0 0 (zA K ad H.size)) (hL : zLs own index y bytes maxL ret k) (hlen : As.length = k) (hst : st0 = As.reverse ++ rest) (hrest : (rest.map fun v => v.category).sum ≤ 8) (hR : rm.frames + 1 ≤ R.frames ∧ 8 + (maxL + 11) + rm.locals ≤ R.locals) (hrc : rm.cells = 0) (hrs : rm.slots = 0) (hf : cells ≤ R.cells ∧ slots ≤ R.slots) (hdg : decode cc pc = .ok (.invokestatic index, 3))
    (kk : ∀ (r : Int64) (g1 : Nat → va_E) (H1 : Heap) (locs1 : List Loc), zP D K ad g1 A H1 → va_S A s.heap H1 locs1 → post r g1 → W p l e R s m args below meth c H1 locs1 cells slots Q (F0 m (pc + 3) ls (.long r :: rest))) : W p l e R s m args below meth c H locs cells slots Q (F0 m pc ls st0) :=
  z_calll C0 hP hS (z_runS (As := As) (rest := rest) C0 hP hsz hM hL hlen hst hrest hrc hrs hR hf hdg) kk
theorem z_Sd_eq (C0 : zC p s m args c meth cc nL own D cy A) (hP : zP D K ad g A H) (hS : va_S A s.heap H locs) (hsz : ls.size = nL) {st0 As : List Value} {y : MethodName} {bytes : ByteArray} {maxL index k : Nat} {ret : Option FieldType} {rm : Room} {X : UInt64}
    (hM : Met l y (zs y bytes maxL ret) rm (va_Pc As (zIn D cy K ad g H.size)) (va_Qd (fun r g1 => g1 = g ∧ r = X) (zOut D cy K ad H.size) (zA K ad H.size)) 0 0 (zA K ad H.size)) (hL : zLs own index y bytes maxL ret k) (hlen : As.length = k) (hst : st0 = As.reverse ++ rest) (hrest : (rest.map fun v => v.category).sum ≤ 8) (hR : rm.frames + 1 ≤ R.frames ∧ 8 + (maxL + 11) + rm.locals ≤ R.locals) (hrc : rm.cells = 0) (hrs : rm.slots = 0) (hf : cells ≤ R.cells ∧ slots ≤ R.slots) (hdg : decode cc pc = .ok (.invokestatic index, 3))
    (kk : ∀ (H1 : Heap) (locs1 : List Loc), zP D K ad g A H1 → va_S A s.heap H1 locs1 → W p l e R s m args below meth c H1 locs1 cells slots Q (F0 m (pc + 3) ls (.double X :: rest))) : W p l e R s m args below meth c H locs cells slots Q (F0 m pc ls st0) :=
  z_calld C0 hP hS (z_runS (As := As) (rest := rest) C0 hP hsz hM hL hlen hst hrest hrc hrs hR hf hdg) (fun r g1 H1 locs1 h1 h2 h3 => by
    obtain ⟨rfl, rfl⟩ := h3
    exact kk H1 locs1 h1 h2)
theorem z_Sd_ro (C0 : zC p s m args c meth cc nL own D cy A) (hP : zP D K ad g A H) (hS : va_S A s.heap H locs) (hsz : ls.size = nL) {st0 As : List Value} {y : MethodName} {bytes : ByteArray} {maxL index k : Nat} {ret : Option FieldType} {rm : Room} {ψ : UInt64 → Prop}
    (hM : Met l y (zs y bytes maxL ret) rm (va_Pc As (zIn D cy K ad g H.size)) (va_Qd (fun r g1 => g1 = g ∧ ψ r) (zOut D cy K ad H.size) (zA K ad H.size)) 0 0 (zA K ad H.size)) (hL : zLs own index y bytes maxL ret k) (hlen : As.length = k) (hst : st0 = As.reverse ++ rest) (hrest : (rest.map fun v => v.category).sum ≤ 8) (hR : rm.frames + 1 ≤ R.frames ∧ 8 + (maxL + 11) + rm.locals ≤ R.locals) (hrc : rm.cells = 0) (hrs : rm.slots = 0) (hf : cells ≤ R.cells ∧ slots ≤ R.slots) (hdg : decode cc pc = .ok (.invokestatic index, 3))
    (kk : ∀ (r : UInt64) (H1 : Heap) (locs1 : List Loc), zP D K ad g A H1 → va_S A s.heap H1 locs1 → ψ r → W p l e R s m args below meth c H1 locs1 cells slots Q (F0 m (pc + 3) ls (.double r :: rest))) : W p l e R s m args below meth c H locs cells slots Q (F0 m pc ls st0) :=
  z_calld C0 hP hS (z_runS (As := As) (rest := rest) C0 hP hsz hM hL hlen hst hrest hrc hrs hR hf hdg) (fun r g1 H1 locs1 h1 h2 h3 => by
    obtain ⟨rfl, h3⟩ := h3
    exact kk r H1 locs1 h1 h2 h3)
theorem z_Sd_mo (C0 : zC p s m args c meth cc nL own D cy A) (hP : zP D K ad g A H) (hS : va_S A s.heap H locs) (hsz : ls.size = nL) {st0 As : List Value} {y : MethodName} {bytes : ByteArray} {maxL index k : Nat} {ret : Option FieldType} {rm : Room} {post : UInt64 → (Nat → va_E) → Prop}
    (hM : Met l y (zs y bytes maxL ret) rm (va_Pc As (zIn D cy K ad g H.size)) (va_Qd post (zOut D cy K ad H.size) (zA K ad H.size)) 0 0 (zA K ad H.size)) (hL : zLs own index y bytes maxL ret k) (hlen : As.length = k) (hst : st0 = As.reverse ++ rest) (hrest : (rest.map fun v => v.category).sum ≤ 8) (hR : rm.frames + 1 ≤ R.frames ∧ 8 + (maxL + 11) + rm.locals ≤ R.locals) (hrc : rm.cells = 0) (hrs : rm.slots = 0) (hf : cells ≤ R.cells ∧ slots ≤ R.slots) (hdg : decode cc pc = .ok (.invokestatic index, 3))
    (kk : ∀ (r : UInt64) (g1 : Nat → va_E) (H1 : Heap) (locs1 : List Loc), zP D K ad g1 A H1 → va_S A s.heap H1 locs1 → post r g1 → W p l e R s m args below meth c H1 locs1 cells slots Q (F0 m (pc + 3) ls (.double r :: rest))) : W p l e R s m args below meth c H locs cells slots Q (F0 m pc ls st0) :=
  z_calld C0 hP hS (z_runS (As := As) (rest := rest) C0 hP hsz hM hL hlen hst hrest hrc hrs hR hf hdg) kk
theorem z_Sv_mo (C0 : zC p s m args c meth cc nL own D cy A) (hP : zP D K ad g A H) (hS : va_S A s.heap H locs) (hsz : ls.size = nL) {st0 As : List Value} {y : MethodName} {bytes : ByteArray} {maxL index k : Nat} {ret : Option FieldType} {rm : Room} {post : (Nat → va_E) → Prop}
    (hM : Met l y (zs y bytes maxL ret) rm (va_Pc As (zIn D cy K ad g H.size)) (va_Qv post (zOut D cy K ad H.size) (zA K ad H.size)) 0 0 (zA K ad H.size)) (hL : zLs own index y bytes maxL ret k) (hlen : As.length = k) (hst : st0 = As.reverse ++ rest) (hrest : (rest.map fun v => v.category).sum ≤ 8) (hR : rm.frames + 1 ≤ R.frames ∧ 8 + (maxL + 11) + rm.locals ≤ R.locals) (hrc : rm.cells = 0) (hrs : rm.slots = 0) (hf : cells ≤ R.cells ∧ slots ≤ R.slots) (hdg : decode cc pc = .ok (.invokestatic index, 3))
    (kk : ∀ (g1 : Nat → va_E) (H1 : Heap) (locs1 : List Loc), zP D K ad g1 A H1 → va_S A s.heap H1 locs1 → post g1 → W p l e R s m args below meth c H1 locs1 cells slots Q (F0 m (pc + 3) ls rest)) : W p l e R s m args below meth c H locs cells slots Q (F0 m pc ls st0) :=
  z_callv C0 hP hS (z_runS (As := As) (rest := rest) C0 hP hsz hM hL hlen hst hrest hrc hrs hR hf hdg) kk
end ZQ2
end
section
/-! ===== the numbers behind a cord: its open knots, what it tells, what is laid out for a number ===== -/
def opn (kn lo : Nat → Int32) (p : Nat) : Int32 := kn p - 10 * lo p
def tld (kn lo : Nat → Int32) : Nat → Int32
  | 0 => 0
  | k + 1 => 10 * tld kn lo k + opn kn lo (5 - k)
def sumN (r : Nat → Int32) : Nat → Int32
  | 0 => 0
  | k + 1 => sumN r k + r k
def lrest (num : Int32) : Nat → Int32
  | 0 => num
  | p + 1 => lrest num p / 10
def lcar (kn lo : Nat → Int32) (num : Int32) : Nat → Int32
  | 0 => 0
  | p + 1 => (opn kn lo p + (lrest num p - lrest num p / 10 * 10 + lcar kn lo num p)) / 10
def mK (kn lo : Nat → Int32) (num : Int32) (p : Nat) : Int32 := lrest num p - lrest num p / 10 * 10 + lcar kn lo num p
def mL (kn lo : Nat → Int32) (num : Int32) (p : Nat) : Int32 := (opn kn lo p + mK kn lo num p) / 10
def isFull (kn lo : Nat → Int32) (num room : Int32) (p : Nat) : Prop := 0 < mK kn lo num p + mL kn lo num p ∧ room < kn p + lo p + (mK kn lo num p + mL kn lo num p)
def rsn (kn lo : Nat → Int32) (num room : Int32) : Nat → Int32
  | 0 => 0
  | p + 1 => if 0 < mK kn lo num p + mL kn lo num p ∧ room < kn p + lo p + (mK kn lo num p + mL kn lo num p) then 2 else rsn kn lo num room p
def refuse (kn lo : Nat → Int32) (num room : Int32) : Int32 := if tld kn lo 6 + num ≤ 999999 then rsn kn lo num room 6 else 1
def rop (kn lo : Nat → Int32) (m : Nat) (num room : Int32) : Int32 := if m < 16 then refuse kn lo num room else 3
theorem rsn_a {kn lo : Nat → Int32} {num room : Int32} {p : Nat} (h : rsn kn lo num room p = 0) (c : mK kn lo num p + mL kn lo num p ≤ 0) : rsn kn lo num room (p + 1) = 0 := by
  show (if _ then _ else _) = _
  rw [if_neg (fun q => Int32.not_lt.mpr c q.1)]
  exact h
theorem rsn_b {kn lo : Nat → Int32} {num room : Int32} {p : Nat} (h : rsn kn lo num room p = 0) (c : kn p + lo p + (mK kn lo num p + mL kn lo num p) ≤ room) : rsn kn lo num room (p + 1) = 0 := by
  show (if _ then _ else _) = _
  rw [if_neg (fun q => Int32.not_lt.mpr c q.2)]
  exact h
theorem rsn_c {kn lo : Nat → Int32} {num room : Int32} {p : Nat} (c1 : ¬ mK kn lo num p + mL kn lo num p ≤ 0) (c2 : ¬ kn p + lo p + (mK kn lo num p + mL kn lo num p) ≤ room) : ∀ q, p < q → rsn kn lo num room q = 2 := by
  intro q hq
  induction q with
  | zero => omega
  | succ q ih =>
    show (if _ then _ else _) = _
    by_cases hp : p = q
    · subst hp
      rw [if_pos ⟨Int32.not_le.mp c1, Int32.not_le.mp c2⟩]
    · split
      · rfl
      · exact ih (by omega)
def tK (kn lo : Nat → Int32) (num : Int32) (k : Nat) : Nat → Int32 := fun q => if q < k then kn q + mK kn lo num q else kn q
def tL (kn lo : Nat → Int32) (num : Int32) (k : Nat) : Nat → Int32 := fun q => if q < k then lo q + mL kn lo num q else lo q
theorem opn_t (kn lo : Nat → Int32) (num : Int32) (k : Nat) : opn (tK kn lo num k) (tL kn lo num k) k = opn kn lo k := by simp [opn, tK, tL]
theorem tK_0 (kn lo : Nat → Int32) (num : Int32) : tK kn lo num 0 = kn := by funext q; simp [tK]
theorem tL_0 (kn lo : Nat → Int32) (num : Int32) : tL kn lo num 0 = lo := by funext q; simp [tL]
theorem tK_up (kn lo : Nat → Int32) (num : Int32) (k : Nat) : upd (tK kn lo num k) k (tK kn lo num k k + mK kn lo num k) = tK kn lo num (k + 1) := by
  funext q
  simp only [upd, tK]
  by_cases h : q = k
  · subst h; simp
  · have h1 : (q < k + 1) = (q < k) := propext ⟨fun z => by omega, fun z => by omega⟩
    simp [h, h1]
theorem tL_up (kn lo : Nat → Int32) (num : Int32) (k : Nat) : upd (tL kn lo num k) k (tL kn lo num k k + mL kn lo num k) = tL kn lo num (k + 1) := by
  funext q
  simp only [upd, tL]
  by_cases h : q = k
  · subst h; simp
  · have h1 : (q < k + 1) = (q < k) := propext ⟨fun z => by omega, fun z => by omega⟩
    simp [h, h1]
def zK (kn : Nat → Int32) (k : Nat) : Nat → Int32 := fun q => if q < k then 0 else kn q
theorem zK_0 (kn : Nat → Int32) : zK kn 0 = kn := by funext q; simp [zK]
theorem zK_up (kn : Nat → Int32) (k : Nat) : upd (zK kn k) k 0 = zK kn (k + 1) := by
  funext q
  simp only [upd, zK]
  by_cases h : q = k
  · subst h; simp
  · have h1 : (q < k + 1) = (q < k) := propext ⟨fun z => by omega, fun z => by omega⟩
    simp [h, h1]
theorem z_m1_lt {j : Nat} (h : nI j - 1 < 0) (hj : j < 2 ^ 31) : j = 0 := by
  cases j with
  | zero => rfl
  | succ j => rw [nI_pred] at h; exact absurd h (nI_pos (by omega))
theorem z_m1_ge {j : Nat} (h : ¬ nI j - 1 < 0) : 0 < j := by
  cases j with
  | zero => exact absurd (by decide) h
  | succ j => omega
end
section
set_option maxHeartbeats 4000000 in
set_option maxRecDepth 100000 in
theorem m_X0_open (l : Launch) {D : va_G} {cy : Nat → ClassId} {K : Nat} {ad : Nat → Nat} {g : Nat → va_E} (sz : Nat) {n : Nat} {kn lo pa : Nat → Int32} {pc hu sl : Int32} {j : Nat} (hC : isC cy K ad g n kn lo pa pc hu sl) (hj : j < 6) : Met l yX0_open (zs yX0_open cX0_open 2 (some .int)) ({ frames := 0, cells := 0, slots := 0, locals := 0 } : Room) (va_Pc [.ref (ad n), .int (nI j)] (zIn D cy K ad g sz)) (va_Qi (fun r g1 => g1 = g ∧ r = opn kn lo j) (zOut D cy K ad sz) (zA K ad sz)) 0 0 (zA K ad sz) := by
  refine z_met (by decide) (Nat.le_of_ble_eq_true rfl) (fun p e s m below meth c ls hsz hl C0 hr hnm hP hS => ?_)
  subst hsz
  have hl : lv_has ls 2 [(0, .ref (ad n)), (1, .int (nI j))] := hl
  have hx := C0.1; have hb := C0.2.1; have hown := C0.2.2.2.1; have hts := C0.2.2.2.2.1
  refine lv_aload_n hx hb dX0_open_0 rfl (lv_at hl 0 rfl) ?_
  refine z_get C0 hP hC.n0 hC.o fd_X0_9 rfl dX0_open_1 ?_
  refine lv_iload_n hx hb dX0_open_4 rfl (lv_at hl 1 rfl) ?_
  refine z_iald C0 hP hC.n1 hC.a_kn (zIx_nI (by omega) (by decide)) dX0_open_5 ?_
  refine lv_bipush (v := 10) hx hb dX0_open_6 (by decide) ?_
  refine lv_aload_n hx hb dX0_open_8 rfl (lv_at hl 0 rfl) ?_
  refine z_get C0 hP hC.n0 hC.o fd_X0_15 rfl dX0_open_9 ?_
  refine lv_iload_n hx hb dX0_open_12 rfl (lv_at hl 1 rfl) ?_
  refine z_iald C0 hP hC.n2 hC.a_lo (zIx_nI (by omega) (by decide)) dX0_open_13 ?_
  refine lv_imul hx hb dX0_open_14 ?_
  refine lv_isub hx hb dX0_open_15 ?_
  exact z_iret C0 hP hS hr (⟨rfl, rfl⟩) dX0_open_16
set_option maxHeartbeats 4000000 in
set_option maxRecDepth 100000 in
theorem m_X0_tiesAt (l : Launch) {D : va_G} {cy : Nat → ClassId} {K : Nat} {ad : Nat → Nat} {g : Nat → va_E} (sz : Nat) {n : Nat} {kn lo pa : Nat → Int32} {pc hu sl : Int32} {j : Nat} (hC : isC cy K ad g n kn lo pa pc hu sl) (hj : j < 6) : Met l yX0_tiesAt (zs yX0_tiesAt cX0_tiesAt 2 (some .int)) ({ frames := 0, cells := 0, slots := 0, locals := 0 } : Room) (va_Pc [.ref (ad n), .int (nI j)] (zIn D cy K ad g sz)) (va_Qi (fun r g1 => g1 = g ∧ r = kn j + lo j) (zOut D cy K ad sz) (zA K ad sz)) 0 0 (zA K ad sz) := by
  refine z_met (by decide) (Nat.le_of_ble_eq_true rfl) (fun p e s m below meth c ls hsz hl C0 hr hnm hP hS => ?_)
  subst hsz
  have hl : lv_has ls 2 [(0, .ref (ad n)), (1, .int (nI j))] := hl
  have hx := C0.1; have hb := C0.2.1; have hown := C0.2.2.2.1; have hts := C0.2.2.2.2.1
  refine lv_aload_n hx hb dX0_tiesAt_0 rfl (lv_at hl 0 rfl) ?_
  refine z_get C0 hP hC.n0 hC.o fd_X0_9 rfl dX0_tiesAt_1 ?_
  refine lv_iload_n hx hb dX0_tiesAt_4 rfl (lv_at hl 1 rfl) ?_
  refine z_iald C0 hP hC.n1 hC.a_kn (zIx_nI (by omega) (by decide)) dX0_tiesAt_5 ?_
  refine lv_aload_n hx hb dX0_tiesAt_6 rfl (lv_at hl 0 rfl) ?_
  refine z_get C0 hP hC.n0 hC.o fd_X0_15 rfl dX0_tiesAt_7 ?_
  refine lv_iload_n hx hb dX0_tiesAt_10 rfl (lv_at hl 1 rfl) ?_
  refine z_iald C0 hP hC.n2 hC.a_lo (zIx_nI (by omega) (by decide)) dX0_tiesAt_11 ?_
  refine lv_iadd hx hb dX0_tiesAt_12 ?_
  exact z_iret C0 hP hS hr (⟨rfl, rfl⟩) dX0_tiesAt_13
set_option maxHeartbeats 4000000 in
set_option maxRecDepth 100000 in
theorem m_X0_told (l : Launch) {D : va_G} {cy : Nat → ClassId} {K : Nat} {ad : Nat → Nat} {g : Nat → va_E} (sz : Nat) {n : Nat} {kn lo pa : Nat → Int32} {pc hu sl : Int32} (hC : isC cy K ad g n kn lo pa pc hu sl) : Met l yX0_told (zs yX0_told cX0_told 3 (some .int)) ({ frames := 1, cells := 0, slots := 0, locals := 21 } : Room) (va_Pc [.ref (ad n)] (zIn D cy K ad g sz)) (va_Qi (fun r g1 => g1 = g ∧ r = tld kn lo 6) (zOut D cy K ad sz) (zA K ad sz)) 0 0 (zA K ad sz) := by
  refine z_met (by decide) (Nat.le_of_ble_eq_true rfl) (fun p e s m below meth c ls hsz hl C0 hr hnm hP hS => ?_)
  subst hsz
  have hl : lv_has ls 3 [(0, .ref (ad n))] := hl
  have hx := C0.1; have hb := C0.2.1; have hown := C0.2.2.2.1; have hts := C0.2.2.2.2.1
  refine lv_iconst (v := 0) hx hb dX0_told_0 (by decide) ?_
  refine lv_istore_n (lv' := [(1, .int 0), (0, .ref (ad n))]) hx hb dX0_told_1 rfl hl (by decide) rfl (fun ls hl => ?_)
  refine lv_iconst (v := 5) hx hb dX0_told_2 (by decide) ?_
  refine z_topi (y := nI 6 - 1) (by decide) ?_
  refine lv_istore_n (lv' := [(2, .int (nI 6 - 1)), (1, .int 0), (0, .ref (ad n))]) hx hb dX0_told_3 rfl hl (by decide) rfl (fun ls hl => ?_)
  have lp_4 : ∀ (N : Nat) (k : Nat) (hk : k ≤ 6), 6 - k < N → ∀ (H : Heap) (locs : List Loc) (ls : Array Slot), zP D K ad g (zA K ad s.heap.size) H → va_S (zA K ad s.heap.size) s.heap H locs → lv_has ls 3 [(0, .ref (ad n)), (1, .int (tld kn lo k)), (2, .int (nI (6 - k) - 1))] → W p l e ({ frames := 1, cells := 0, slots := 0, locals := 21 } : Room) s m [.ref (ad n)].toArray below meth c H locs 0 0 (MQ below (va_Qi (fun r g1 => g1 = g ∧ r = tld kn lo 6) (zOut D cy K ad s.heap.size) (zA K ad s.heap.size)) [.ref (ad n)].toArray s 0 0 (zA K ad s.heap.size)) (F0 m 4 ls []) := by
    intro N
    induction N with
    | zero => intro k hk hN; exact absurd hN (Nat.not_lt_zero _)
    | succ N ih_4 =>
      intro k hk hN H locs ls hP hS  hl
      refine lv_iload_n hx hb dX0_told_4 rfl (lv_at hl 2 rfl) ?_
      refine lv_if_lt (tgt := 25) hx hb dX0_told_5 (by decide) (fun c_5 => ?_) (fun c_5 => ?_)
      · have hk2 : k = 6 := by have := z_m1_lt c_5 (by omega); omega
        subst hk2
        refine lv_iload_n hx hb dX0_told_25 rfl (lv_at hl 1 rfl) ?_
        exact z_iret C0 hP hS hr (⟨rfl, rfl⟩) dX0_told_26
      · have hk2 : k < 6 := by have := z_m1_ge c_5; omega
        have e5 : nI (6 - k) - 1 = nI (5 - k) := by rw [show 6 - k = (5 - k) + 1 by omega, nI_pred]
        rw [e5] at hl
        refine lv_bipush (v := 10) hx hb dX0_told_8 (by decide) ?_
        refine lv_iload_n hx hb dX0_told_10 rfl (lv_at hl 1 rfl) ?_
        refine lv_imul hx hb dX0_told_11 ?_
        refine lv_aload_n hx hb dX0_told_12 rfl (lv_at hl 0 rfl) ?_
        refine lv_iload_n hx hb dX0_told_13 rfl (lv_at hl 2 rfl) ?_
        refine z_Vi_eq (As := [.int (nI (5 - k))]) (rest := [.int (10 * (tld kn lo k))]) C0 hP hS hl.1 (m_X0_open l _ hC (by omega)) lk_X0_37 hC.n0 hC.o rfl rfl (Nat.le_of_ble_eq_true rfl) ⟨Nat.le_of_ble_eq_true rfl, Nat.le_of_ble_eq_true rfl⟩ rfl rfl ⟨Nat.zero_le _, Nat.zero_le _⟩ dX0_told_14 (fun H locs hP hS => ?_)
        refine lv_iadd hx hb dX0_told_17 ?_
        refine lv_istore_n (lv' := [(1, .int ((10 * (tld kn lo k)) + (opn kn lo (5 - k)))), (0, .ref (ad n)), (2, .int (nI (5 - k)))]) hx hb dX0_told_18 rfl hl (by decide) rfl (fun ls hl => ?_)
        refine lv_iinc (v := nI (6 - (k + 1)) - 1) (lv' := [(2, .int (nI (6 - (k + 1)) - 1)), (1, .int ((10 * (tld kn lo k)) + (opn kn lo (5 - k)))), (0, .ref (ad n))]) hx hb dX0_told_19 hl (k := 2) rfl (by rw [show 6 - (k + 1) = 5 - k by omega]; exact z_decx _) (by decide) rfl (fun ls hl => ?_)
        refine lv_goto (tgt := 4) hx hb dX0_told_22 (by decide) ?_
        exact ih_4 (k + 1) hk2 (by omega) _ _ _ hP hS  (lv_sub hl [2, 1, 0] rfl)
  exact lp_4 _ 0 (Nat.zero_le _) (Nat.lt_succ_self _) _ _ _ hP hS  (lv_sub hl [2, 1, 0] rfl)
set_option maxHeartbeats 4000000 in
set_option maxRecDepth 100000 in
theorem m_X0_sumOf (l : Launch) {D : va_G} {cy : Nat → ClassId} {K : Nat} {ad : Nat → Nat} {g : Nat → va_E} (sz : Nat) {n len mm : Nat} {fn : Nat → Int32} (hB : isA cy K ad g n len fn) (hm : mm ≤ len) (hlen : len < 2 ^ 31) : Met l yX0_sumOf (zs yX0_sumOf cX0_sumOf 4 (some .int)) ({ frames := 0, cells := 0, slots := 0, locals := 0 } : Room) (va_Pc [.ref (ad n), .int (nI mm)] (zIn D cy K ad g sz)) (va_Qi (fun r g1 => g1 = g ∧ r = sumN fn mm) (zOut D cy K ad sz) (zA K ad sz)) 0 0 (zA K ad sz) := by
  refine z_met (by decide) (Nat.le_of_ble_eq_true rfl) (fun p e s m below meth c ls hsz hl C0 hr hnm hP hS => ?_)
  subst hsz
  have hl : lv_has ls 4 [(0, .ref (ad n)), (1, .int (nI mm))] := hl
  have hx := C0.1; have hb := C0.2.1; have hown := C0.2.2.2.1; have hts := C0.2.2.2.2.1
  refine lv_iconst (v := 0) hx hb dX0_sumOf_0 (by decide) ?_
  refine lv_istore_n (lv' := [(2, .int 0), (0, .ref (ad n)), (1, .int (nI mm))]) hx hb dX0_sumOf_1 rfl hl (by decide) rfl (fun ls hl => ?_)
  refine lv_iconst (v := 0) hx hb dX0_sumOf_2 (by decide) ?_
  refine lv_istore_n (lv' := [(3, .int 0), (2, .int 0), (0, .ref (ad n)), (1, .int (nI mm))]) hx hb dX0_sumOf_3 rfl hl (by decide) rfl (fun ls hl => ?_)
  have lp_4 : ∀ (N : Nat) (k : Nat) (hk : k ≤ mm), mm - k < N → ∀ (H : Heap) (locs : List Loc) (ls : Array Slot), zP D K ad g (zA K ad s.heap.size) H → va_S (zA K ad s.heap.size) s.heap H locs → lv_has ls 4 [(0, .ref (ad n)), (1, .int (nI mm)), (2, .int (sumN fn k)), (3, .int (nI k))] → W p l e ({ frames := 0, cells := 0, slots := 0, locals := 0 } : Room) s m [.ref (ad n), .int (nI mm)].toArray below meth c H locs 0 0 (MQ below (va_Qi (fun r g1 => g1 = g ∧ r = sumN fn mm) (zOut D cy K ad s.heap.size) (zA K ad s.heap.size)) [.ref (ad n), .int (nI mm)].toArray s 0 0 (zA K ad s.heap.size)) (F0 m 4 ls []) := by
    intro N
    induction N with
    | zero => intro k hk hN; exact absurd hN (Nat.not_lt_zero _)
    | succ N ih_4 =>
      intro k hk hN H locs ls hP hS  hl
      refine lv_iload_n hx hb dX0_sumOf_4 rfl (lv_at hl 3 rfl) ?_
      refine lv_iload_n hx hb dX0_sumOf_5 rfl (lv_at hl 1 rfl) ?_
      refine lv_icmp_ge (tgt := 27) hx hb dX0_sumOf_6 (by decide) (fun c_6 => ?_) (fun c_6 => ?_)
      · have hk2 : k = mm := by have := z_ge_t c_6 (by omega) (by omega); omega
        subst hk2
        refine lv_iload_n hx hb dX0_sumOf_27 rfl (lv_at hl 2 rfl) ?_
        exact z_iret C0 hP hS hr (⟨rfl, rfl⟩) dX0_sumOf_28
      · have hk2 : k < mm := z_ge_f c_6 (by omega) (by omega)
        refine lv_iload_n hx hb dX0_sumOf_9 rfl (lv_at hl 3 rfl) ?_
        refine lv_aload_n hx hb dX0_sumOf_10 rfl (lv_at hl 0 rfl) ?_
        refine z_alen (v := (nI len)) C0 hP hB.n0 hB.a_fn rfl rfl dX0_sumOf_11 ?_
        refine lv_icmp_ge (tgt := 27) hx hb dX0_sumOf_12 (by decide) (fun c_12 => absurd (z_ge_t c_12 (by omega) (by omega)) (by omega)) (fun c_12 => ?_)
        refine lv_iload_n hx hb dX0_sumOf_15 rfl (lv_at hl 2 rfl) ?_
        refine lv_aload_n hx hb dX0_sumOf_16 rfl (lv_at hl 0 rfl) ?_
        refine lv_iload_n hx hb dX0_sumOf_17 rfl (lv_at hl 3 rfl) ?_
        refine z_iald C0 hP hB.n0 hB.a_fn (zIx_nI (by omega) hlen) dX0_sumOf_18 ?_
        refine lv_iadd hx hb dX0_sumOf_19 ?_
        refine lv_istore_n (lv' := [(2, .int ((sumN fn k) + (fn k))), (0, .ref (ad n)), (1, .int (nI mm)), (3, .int (nI k))]) hx hb dX0_sumOf_20 rfl hl (by decide) rfl (fun ls hl => ?_)
        refine lv_iinc (v := nI (k + 1)) (lv' := [(3, .int (nI (k + 1))), (2, .int ((sumN fn k) + (fn k))), (0, .ref (ad n)), (1, .int (nI mm))]) hx hb dX0_sumOf_21 hl (k := 3) rfl (z_inc _) (by decide) rfl (fun ls hl => ?_)
        refine lv_goto (tgt := 4) hx hb dX0_sumOf_24 (by decide) ?_
        exact ih_4 (k + 1) hk2 (by omega) _ _ _ hP hS  (lv_sub hl [2, 3, 1, 0] rfl)
  exact lp_4 _ 0 (Nat.zero_le _) (Nat.lt_succ_self _) _ _ _ hP hS  (lv_sub hl [2, 3, 1, 0] rfl)
set_option maxHeartbeats 4000000 in
set_option maxRecDepth 100000 in
theorem m_X0_partsTogether (l : Launch) {D : va_G} {cy : Nat → ClassId} {K : Nat} {ad : Nat → Nat} {g : Nat → va_E} (sz : Nat) {n : Nat} {kn lo pa : Nat → Int32} {hu sl : Int32} {mm : Nat} (hC : isC cy K ad g n kn lo pa (nI mm) hu sl) (hm : mm ≤ 16) : Met l yX0_partsTogether (zs yX0_partsTogether cX0_partsTogether 1 (some .int)) ({ frames := 1, cells := 0, slots := 0, locals := 23 } : Room) (va_Pc [.ref (ad n)] (zIn D cy K ad g sz)) (va_Qi (fun r g1 => g1 = g ∧ r = sumN pa mm) (zOut D cy K ad sz) (zA K ad sz)) 0 0 (zA K ad sz) := by
  refine z_met (by decide) (Nat.le_of_ble_eq_true rfl) (fun p e s m below meth c ls hsz hl C0 hr hnm hP hS => ?_)
  subst hsz
  have hl : lv_has ls 1 [(0, .ref (ad n))] := hl
  have hx := C0.1; have hb := C0.2.1; have hown := C0.2.2.2.1; have hts := C0.2.2.2.2.1
  refine lv_aload_n hx hb dX0_partsTogether_0 rfl (lv_at hl 0 rfl) ?_
  refine z_get C0 hP hC.n0 hC.o fd_X0_18 rfl dX0_partsTogether_1 ?_
  refine lv_aload_n hx hb dX0_partsTogether_4 rfl (lv_at hl 0 rfl) ?_
  refine z_get C0 hP hC.n0 hC.o fd_X0_21 rfl dX0_partsTogether_5 ?_
  refine z_Si_eq (As := [.ref (ad (n + 3)), .int (nI mm)]) (rest := []) C0 hP hS hl.1 (m_X0_sumOf l _ (isA.of hC.n3 hC.a_pa) hm (by decide)) lk_X0_41 rfl rfl (Nat.le_of_ble_eq_true rfl) ⟨Nat.le_of_ble_eq_true rfl, Nat.le_of_ble_eq_true rfl⟩ rfl rfl ⟨Nat.zero_le _, Nat.zero_le _⟩ dX0_partsTogether_8 (fun H locs hP hS => ?_)
  exact z_iret C0 hP hS hr (⟨rfl, rfl⟩) dX0_partsTogether_11
set_option maxHeartbeats 4000000 in
set_option maxRecDepth 100000 in
theorem m_X0_allKnots (l : Launch) {D : va_G} {cy : Nat → ClassId} {K : Nat} {ad : Nat → Nat} {g : Nat → va_E} (sz : Nat) {n : Nat} {kn lo pa : Nat → Int32} {pc hu sl : Int32} (hC : isC cy K ad g n kn lo pa pc hu sl) : Met l yX0_allKnots (zs yX0_allKnots cX0_allKnots 1 (some .int)) ({ frames := 1, cells := 0, slots := 0, locals := 23 } : Room) (va_Pc [.ref (ad n)] (zIn D cy K ad g sz)) (va_Qi (fun r g1 => g1 = g ∧ r = sumN kn 6) (zOut D cy K ad sz) (zA K ad sz)) 0 0 (zA K ad sz) := by
  refine z_met (by decide) (Nat.le_of_ble_eq_true rfl) (fun p e s m below meth c ls hsz hl C0 hr hnm hP hS => ?_)
  subst hsz
  have hl : lv_has ls 1 [(0, .ref (ad n))] := hl
  have hx := C0.1; have hb := C0.2.1; have hown := C0.2.2.2.1; have hts := C0.2.2.2.2.1
  refine lv_aload_n hx hb dX0_allKnots_0 rfl (lv_at hl 0 rfl) ?_
  refine z_get C0 hP hC.n0 hC.o fd_X0_9 rfl dX0_allKnots_1 ?_
  refine lv_bipush (v := (nI 6)) hx hb dX0_allKnots_4 (by decide) ?_
  refine z_Si_eq (As := [.ref (ad (n + 1)), .int (nI 6)]) (rest := []) C0 hP hS hl.1 (m_X0_sumOf l _ (isA.of hC.n1 hC.a_kn) (Nat.le_refl 6) (by decide)) lk_X0_41 rfl rfl (Nat.le_of_ble_eq_true rfl) ⟨Nat.le_of_ble_eq_true rfl, Nat.le_of_ble_eq_true rfl⟩ rfl rfl ⟨Nat.zero_le _, Nat.zero_le _⟩ dX0_allKnots_6 (fun H locs hP hS => ?_)
  exact z_iret C0 hP hS hr (⟨rfl, rfl⟩) dX0_allKnots_9
set_option maxHeartbeats 4000000 in
set_option maxRecDepth 100000 in
theorem m_X0_allLoops (l : Launch) {D : va_G} {cy : Nat → ClassId} {K : Nat} {ad : Nat → Nat} {g : Nat → va_E} (sz : Nat) {n : Nat} {kn lo pa : Nat → Int32} {pc hu sl : Int32} (hC : isC cy K ad g n kn lo pa pc hu sl) : Met l yX0_allLoops (zs yX0_allLoops cX0_allLoops 1 (some .int)) ({ frames := 1, cells := 0, slots := 0, locals := 23 } : Room) (va_Pc [.ref (ad n)] (zIn D cy K ad g sz)) (va_Qi (fun r g1 => g1 = g ∧ r = sumN lo 6) (zOut D cy K ad sz) (zA K ad sz)) 0 0 (zA K ad sz) := by
  refine z_met (by decide) (Nat.le_of_ble_eq_true rfl) (fun p e s m below meth c ls hsz hl C0 hr hnm hP hS => ?_)
  subst hsz
  have hl : lv_has ls 1 [(0, .ref (ad n))] := hl
  have hx := C0.1; have hb := C0.2.1; have hown := C0.2.2.2.1; have hts := C0.2.2.2.2.1
  refine lv_aload_n hx hb dX0_allLoops_0 rfl (lv_at hl 0 rfl) ?_
  refine z_get C0 hP hC.n0 hC.o fd_X0_15 rfl dX0_allLoops_1 ?_
  refine lv_bipush (v := (nI 6)) hx hb dX0_allLoops_4 (by decide) ?_
  refine z_Si_eq (As := [.ref (ad (n + 2)), .int (nI 6)]) (rest := []) C0 hP hS hl.1 (m_X0_sumOf l _ (isA.of hC.n2 hC.a_lo) (Nat.le_refl 6) (by decide)) lk_X0_41 rfl rfl (Nat.le_of_ble_eq_true rfl) ⟨Nat.le_of_ble_eq_true rfl, Nat.le_of_ble_eq_true rfl⟩ rfl rfl ⟨Nat.zero_le _, Nat.zero_le _⟩ dX0_allLoops_6 (fun H locs hP hS => ?_)
  exact z_iret C0 hP hS hr (⟨rfl, rfl⟩) dX0_allLoops_9
set_option maxHeartbeats 4000000 in
set_option maxRecDepth 100000 in
theorem m_X0_ties (l : Launch) {D : va_G} {cy : Nat → ClassId} {K : Nat} {ad : Nat → Nat} {g : Nat → va_E} (sz : Nat) {n : Nat} {kn lo pa : Nat → Int32} {pc hu sl : Int32} (hC : isC cy K ad g n kn lo pa pc hu sl) : Met l yX0_ties (zs yX0_ties cX0_ties 1 (some .int)) ({ frames := 2, cells := 0, slots := 0, locals := 43 } : Room) (va_Pc [.ref (ad n)] (zIn D cy K ad g sz)) (va_Qi (fun r g1 => g1 = g ∧ r = sumN kn 6 + sumN lo 6) (zOut D cy K ad sz) (zA K ad sz)) 0 0 (zA K ad sz) := by
  refine z_met (by decide) (Nat.le_of_ble_eq_true rfl) (fun p e s m below meth c ls hsz hl C0 hr hnm hP hS => ?_)
  subst hsz
  have hl : lv_has ls 1 [(0, .ref (ad n))] := hl
  have hx := C0.1; have hb := C0.2.1; have hown := C0.2.2.2.1; have hts := C0.2.2.2.2.1
  refine lv_aload_n hx hb dX0_ties_0 rfl (lv_at hl 0 rfl) ?_
  refine z_Vi_eq (As := []) (rest := []) C0 hP hS hl.1 (m_X0_allKnots l _ hC) lk_X0_52 hC.n0 hC.o rfl rfl (Nat.le_of_ble_eq_true rfl) ⟨Nat.le_of_ble_eq_true rfl, Nat.le_of_ble_eq_true rfl⟩ rfl rfl ⟨Nat.zero_le _, Nat.zero_le _⟩ dX0_ties_1 (fun H locs hP hS => ?_)
  refine lv_aload_n hx hb dX0_ties_4 rfl (lv_at hl 0 rfl) ?_
  refine z_Vi_eq (As := []) (rest := [.int (sumN kn 6)]) C0 hP hS hl.1 (m_X0_allLoops l _ hC) lk_X0_55 hC.n0 hC.o rfl rfl (Nat.le_of_ble_eq_true rfl) ⟨Nat.le_of_ble_eq_true rfl, Nat.le_of_ble_eq_true rfl⟩ rfl rfl ⟨Nat.zero_le _, Nat.zero_le _⟩ dX0_ties_5 (fun H locs hP hS => ?_)
  refine lv_iadd hx hb dX0_ties_8 ?_
  exact z_iret C0 hP hS hr (⟨rfl, rfl⟩) dX0_ties_9
set_option maxHeartbeats 4000000 in
set_option maxRecDepth 100000 in
theorem m_X0_lack (l : Launch) {D : va_G} {cy : Nat → ClassId} {K : Nat} {ad : Nat → Nat} {g : Nat → va_E} (sz : Nat) {n : Nat} {kn lo pa : Nat → Int32} {hu sl : Int32} {mm : Nat} (hC : isC cy K ad g n kn lo pa (nI mm) hu sl) (hm : mm ≤ 16) : Met l yX0_lack (zs yX0_lack cX0_lack 1 (some .int)) ({ frames := 2, cells := 0, slots := 0, locals := 43 } : Room) (va_Pc [.ref (ad n)] (zIn D cy K ad g sz)) (va_Qi (fun r g1 => g1 = g ∧ r = sumN pa mm - tld kn lo 6) (zOut D cy K ad sz) (zA K ad sz)) 0 0 (zA K ad sz) := by
  refine z_met (by decide) (Nat.le_of_ble_eq_true rfl) (fun p e s m below meth c ls hsz hl C0 hr hnm hP hS => ?_)
  subst hsz
  have hl : lv_has ls 1 [(0, .ref (ad n))] := hl
  have hx := C0.1; have hb := C0.2.1; have hown := C0.2.2.2.1; have hts := C0.2.2.2.2.1
  refine lv_aload_n hx hb dX0_lack_0 rfl (lv_at hl 0 rfl) ?_
  refine z_Vi_eq (As := []) (rest := []) C0 hP hS hl.1 (m_X0_partsTogether l _ hC hm) lk_X0_45 hC.n0 hC.o rfl rfl (Nat.le_of_ble_eq_true rfl) ⟨Nat.le_of_ble_eq_true rfl, Nat.le_of_ble_eq_true rfl⟩ rfl rfl ⟨Nat.zero_le _, Nat.zero_le _⟩ dX0_lack_1 (fun H locs hP hS => ?_)
  refine lv_aload_n hx hb dX0_lack_4 rfl (lv_at hl 0 rfl) ?_
  refine z_Vi_eq (As := []) (rest := [.int (sumN pa mm)]) C0 hP hS hl.1 (m_X0_told l _ hC) lk_X0_49 hC.n0 hC.o rfl rfl (Nat.le_of_ble_eq_true rfl) ⟨Nat.le_of_ble_eq_true rfl, Nat.le_of_ble_eq_true rfl⟩ rfl rfl ⟨Nat.zero_le _, Nat.zero_le _⟩ dX0_lack_5 (fun H locs hP hS => ?_)
  refine lv_isub hx hb dX0_lack_8 ?_
  exact z_iret C0 hP hS hr (⟨rfl, rfl⟩) dX0_lack_9
set_option maxHeartbeats 4000000 in
set_option maxRecDepth 100000 in
theorem m_X0_loopsFor (l : Launch) {D : va_G} {cy : Nat → ClassId} {K : Nat} {ad : Nat → Nat} {g : Nat → va_E} (sz : Nat) {n : Nat} {kn lo pa : Nat → Int32} {pc hu sl : Int32} {j : Nat} {x : Int32} (hC : isC cy K ad g n kn lo pa pc hu sl) (hj : j < 6) : Met l yX0_loopsFor (zs yX0_loopsFor cX0_loopsFor 3 (some .int)) ({ frames := 1, cells := 0, slots := 0, locals := 21 } : Room) (va_Pc [.ref (ad n), .int (nI j), .int x] (zIn D cy K ad g sz)) (va_Qi (fun r g1 => g1 = g ∧ r = (opn kn lo j + x) / 10) (zOut D cy K ad sz) (zA K ad sz)) 0 0 (zA K ad sz) := by
  refine z_met (by decide) (Nat.le_of_ble_eq_true rfl) (fun p e s m below meth c ls hsz hl C0 hr hnm hP hS => ?_)
  subst hsz
  have hl : lv_has ls 3 [(0, .ref (ad n)), (1, .int (nI j)), (2, .int x)] := hl
  have hx := C0.1; have hb := C0.2.1; have hown := C0.2.2.2.1; have hts := C0.2.2.2.2.1
  refine lv_aload_n hx hb dX0_loopsFor_0 rfl (lv_at hl 0 rfl) ?_
  refine lv_iload_n hx hb dX0_loopsFor_1 rfl (lv_at hl 1 rfl) ?_
  refine z_Vi_eq (As := [.int (nI j)]) (rest := []) C0 hP hS hl.1 (m_X0_open l _ hC hj) lk_X0_37 hC.n0 hC.o rfl rfl (Nat.le_of_ble_eq_true rfl) ⟨Nat.le_of_ble_eq_true rfl, Nat.le_of_ble_eq_true rfl⟩ rfl rfl ⟨Nat.zero_le _, Nat.zero_le _⟩ dX0_loopsFor_2 (fun H locs hP hS => ?_)
  refine lv_iload_n hx hb dX0_loopsFor_5 rfl (lv_at hl 2 rfl) ?_
  refine lv_iadd hx hb dX0_loopsFor_6 ?_
  refine lv_bipush (v := 10) hx hb dX0_loopsFor_7 (by decide) ?_
  refine lv_idiv hx hb dX0_loopsFor_9 (by decide) ?_
  exact z_iret C0 hP hS hr (⟨rfl, rfl⟩) dX0_loopsFor_10
set_option maxHeartbeats 4000000 in
set_option maxRecDepth 100000 in
theorem m_X0_refusal (l : Launch) {D : va_G} {cy : Nat → ClassId} {K : Nat} {ad : Nat → Nat} {g : Nat → va_E} (sz : Nat) {n : Nat} {kn lo pa : Nat → Int32} {pc hu sl : Int32} {num room : Int32} (hC : isC cy K ad g n kn lo pa pc hu sl) : Met l yX0_refusal (zs yX0_refusal cX0_refusal 9 (some .int)) ({ frames := 2, cells := 0, slots := 0, locals := 43 } : Room) (va_Pc [.ref (ad n), .int num, .int room] (zIn D cy K ad g sz)) (va_Qi (fun r g1 => g1 = g ∧ r = refuse kn lo num room) (zOut D cy K ad sz) (zA K ad sz)) 0 0 (zA K ad sz) := by
  refine z_met (by decide) (Nat.le_of_ble_eq_true rfl) (fun p e s m below meth c ls hsz hl C0 hr hnm hP hS => ?_)
  subst hsz
  have hl : lv_has ls 9 [(0, .ref (ad n)), (1, .int num), (2, .int room)] := hl
  have hx := C0.1; have hb := C0.2.1; have hown := C0.2.2.2.1; have hts := C0.2.2.2.2.1
  refine lv_aload_n hx hb dX0_refusal_0 rfl (lv_at hl 0 rfl) ?_
  refine z_Vi_eq (As := []) (rest := []) C0 hP hS hl.1 (m_X0_told l _ hC) lk_X0_49 hC.n0 hC.o rfl rfl (Nat.le_of_ble_eq_true rfl) ⟨Nat.le_of_ble_eq_true rfl, Nat.le_of_ble_eq_true rfl⟩ rfl rfl ⟨Nat.zero_le _, Nat.zero_le _⟩ dX0_refusal_1 (fun H locs hP hS => ?_)
  refine lv_iload_n hx hb dX0_refusal_4 rfl (lv_at hl 1 rfl) ?_
  refine lv_iadd hx hb dX0_refusal_5 ?_
  refine lv_ldc hx hb hown (hts _ q486) dX0_refusal_6 ?_
  refine lv_icmp_le (tgt := 13) hx hb dX0_refusal_8 (by decide) (fun c_8 => ?_) (fun c_8 => ?_)
  · refine lv_iload_n hx hb dX0_refusal_13 rfl (lv_at hl 1 rfl) ?_
    refine lv_istore_n (lv' := [(3, .int num), (0, .ref (ad n)), (1, .int num), (2, .int room)]) hx hb dX0_refusal_14 rfl hl (by decide) rfl (fun ls hl => ?_)
    refine lv_iconst (v := 0) hx hb dX0_refusal_15 (by decide) ?_
    refine lv_istore (lv' := [(4, .int 0), (3, .int num), (0, .ref (ad n)), (1, .int num), (2, .int room)]) hx hb dX0_refusal_16 hl (by decide) rfl (fun ls hl => ?_)
    refine lv_iconst (v := 0) hx hb dX0_refusal_18 (by decide) ?_
    refine lv_istore (lv' := [(5, .int 0), (4, .int 0), (3, .int num), (0, .ref (ad n)), (1, .int num), (2, .int room)]) hx hb dX0_refusal_19 hl (by decide) rfl (fun ls hl => ?_)
    have lp_21 : ∀ (N : Nat) (k : Nat) (hk : k ≤ 6) (hn : rsn kn lo num room k = 0), 6 - k < N → ∀ (H : Heap) (locs : List Loc) (ls : Array Slot), zP D K ad g (zA K ad s.heap.size) H → va_S (zA K ad s.heap.size) s.heap H locs → lv_has ls 9 [(0, .ref (ad n)), (1, .int num), (2, .int room), (3, .int (lrest num k)), (4, .int (lcar kn lo num k)), (5, .int (nI k))] → W p l e ({ frames := 2, cells := 0, slots := 0, locals := 43 } : Room) s m [.ref (ad n), .int num, .int room].toArray below meth c H locs 0 0 (MQ below (va_Qi (fun r g1 => g1 = g ∧ r = refuse kn lo num room) (zOut D cy K ad s.heap.size) (zA K ad s.heap.size)) [.ref (ad n), .int num, .int room].toArray s 0 0 (zA K ad s.heap.size)) (F0 m 21 ls []) := by
      intro N
      induction N with
      | zero => intro k hk hn hN; exact absurd hN (Nat.not_lt_zero _)
      | succ N ih_21 =>
        intro k hk hn hN H locs ls hP hS  hl
        refine lv_iload hx hb dX0_refusal_21 (lv_at hl 5 rfl) ?_
        refine lv_bipush (v := 6) hx hb dX0_refusal_23 (by decide) ?_
        refine lv_icmp_ge (tgt := 89) hx hb dX0_refusal_25 (by decide) (fun c_25 => ?_) (fun c_25 => ?_)
        · have hk2 : k = 6 := by have := z_ge_t (b := 6) c_25 (by omega) (by omega); omega
          subst hk2
          refine lv_iconst (v := 0) hx hb dX0_refusal_89 (by decide) ?_
          exact z_iret C0 hP hS hr (⟨rfl, ((if_pos c_8).trans hn).symm⟩) dX0_refusal_90
        · have hk2 : k < 6 := z_ge_f (b := 6) c_25 (by omega) (by omega)
          refine lv_iload_n hx hb dX0_refusal_28 rfl (lv_at hl 3 rfl) ?_
          refine lv_bipush (v := 10) hx hb dX0_refusal_29 (by decide) ?_
          refine lv_irem hx hb dX0_refusal_31 (by decide) ?_
          refine lv_iload hx hb dX0_refusal_32 (lv_at hl 4 rfl) ?_
          refine lv_iadd hx hb dX0_refusal_34 ?_
          refine z_topi (y := mK kn lo num k) rfl ?_
          refine lv_istore (lv' := [(6, .int (mK kn lo num k)), (0, .ref (ad n)), (1, .int num), (2, .int room), (3, .int (lrest num k)), (4, .int (lcar kn lo num k)), (5, .int (nI k))]) hx hb dX0_refusal_35 hl (by decide) rfl (fun ls hl => ?_)
          refine lv_aload_n hx hb dX0_refusal_37 rfl (lv_at hl 1 rfl) ?_
          refine lv_iload hx hb dX0_refusal_38 (lv_at hl 6 rfl) ?_
          refine lv_iload hx hb dX0_refusal_40 (lv_at hl 0 rfl) ?_
          refine z_Vi_eq (As := [.int (nI k), .int (mK kn lo num k)]) (rest := []) C0 hP hS hl.1 (m_X0_loopsFor l _ hC hk2) lk_X0_59 hC.n0 hC.o rfl rfl (Nat.le_of_ble_eq_true rfl) ⟨Nat.le_of_ble_eq_true rfl, Nat.le_of_ble_eq_true rfl⟩ rfl rfl ⟨Nat.zero_le _, Nat.zero_le _⟩ dX0_refusal_42 (fun H locs hP hS => ?_)
          refine z_topi (y := mL kn lo num k) rfl ?_
          refine lv_istore (lv' := [(7, .int (mL kn lo num k)), (6, .int (mK kn lo num k)), (0, .ref (ad n)), (1, .int num), (2, .int room), (3, .int (lrest num k)), (4, .int (lcar kn lo num k)), (5, .int (nI k))]) hx hb dX0_refusal_45 hl (by decide) rfl (fun ls hl => ?_)
          refine lv_iload hx hb dX0_refusal_47 (lv_at hl 1 rfl) ?_
          refine lv_iload hx hb dX0_refusal_49 (lv_at hl 0 rfl) ?_
          refine lv_iadd hx hb dX0_refusal_51 ?_
          refine lv_istore (lv' := [(8, .int ((mK kn lo num k) + (mL kn lo num k))), (7, .int (mL kn lo num k)), (6, .int (mK kn lo num k)), (0, .ref (ad n)), (1, .int num), (2, .int room), (3, .int (lrest num k)), (4, .int (lcar kn lo num k)), (5, .int (nI k))]) hx hb dX0_refusal_52 hl (by decide) rfl (fun ls hl => ?_)
          refine lv_iload hx hb dX0_refusal_54 (lv_at hl 0 rfl) ?_
          have lp_74 : ∀  (hnf : rsn kn lo num room (k + 1) = 0), ∀ (H : Heap) (locs : List Loc) (ls : Array Slot), zP D K ad g (zA K ad s.heap.size) H → va_S (zA K ad s.heap.size) s.heap H locs → lv_has ls 9 [(0, .ref (ad n)), (1, .int num), (2, .int room), (3, .int (lrest num k)), (4, .int (lcar kn lo num k)), (5, .int (nI k)), (7, .int (mL kn lo num k))] → W p l e ({ frames := 2, cells := 0, slots := 0, locals := 43 } : Room) s m [.ref (ad n), .int num, .int room].toArray below meth c H locs 0 0 (MQ below (va_Qi (fun r g1 => g1 = g ∧ r = refuse kn lo num room) (zOut D cy K ad s.heap.size) (zA K ad s.heap.size)) [.ref (ad n), .int num, .int room].toArray s 0 0 (zA K ad s.heap.size)) (F0 m 74 ls []) := by
            intro  hnf H locs ls hP hS  hl
            refine lv_iload_n hx hb dX0_refusal_74 rfl (lv_at hl 3 rfl) ?_
            refine lv_bipush (v := 10) hx hb dX0_refusal_75 (by decide) ?_
            refine lv_idiv hx hb dX0_refusal_77 (by decide) ?_
            refine lv_istore_n (lv' := [(3, .int ((lrest num k) / 10)), (0, .ref (ad n)), (1, .int num), (2, .int room), (4, .int (lcar kn lo num k)), (5, .int (nI k)), (7, .int (mL kn lo num k))]) hx hb dX0_refusal_78 rfl hl (by decide) rfl (fun ls hl => ?_)
            refine lv_iload hx hb dX0_refusal_79 (lv_at hl 6 rfl) ?_
            refine lv_istore (lv' := [(4, .int (mL kn lo num k)), (3, .int ((lrest num k) / 10)), (0, .ref (ad n)), (1, .int num), (2, .int room), (5, .int (nI k)), (7, .int (mL kn lo num k))]) hx hb dX0_refusal_81 hl (by decide) rfl (fun ls hl => ?_)
            refine lv_iinc (v := nI (k + 1)) (lv' := [(5, .int (nI (k + 1))), (4, .int (mL kn lo num k)), (3, .int ((lrest num k) / 10)), (0, .ref (ad n)), (1, .int num), (2, .int room), (7, .int (mL kn lo num k))]) hx hb dX0_refusal_83 hl (k := 5) rfl (z_inc _) (by decide) rfl (fun ls hl => ?_)
            refine lv_goto (tgt := 21) hx hb dX0_refusal_86 (by decide) ?_
            exact ih_21 (k + 1) hk2 hnf (by omega) _ _ _ hP hS  (lv_sub hl [3, 4, 5, 2, 1, 0] rfl)
          refine lv_if_le (tgt := 74) hx hb dX0_refusal_56 (by decide) (fun c_56 => ?_) (fun c_56 => ?_)
          · have hnf := rsn_a hn c_56
            exact lp_74  hnf _ _ _ hP hS  (lv_sub hl [3, 4, 5, 6, 7, 8, 1] rfl)
          · refine lv_aload_n hx hb dX0_refusal_59 rfl (lv_at hl 3 rfl) ?_
            refine lv_iload hx hb dX0_refusal_60 (lv_at hl 8 rfl) ?_
            refine z_Vi_eq (As := [.int (nI k)]) (rest := []) C0 hP hS hl.1 (m_X0_tiesAt l _ hC hk2) lk_X0_63 hC.n0 hC.o rfl rfl (Nat.le_of_ble_eq_true rfl) ⟨Nat.le_of_ble_eq_true rfl, Nat.le_of_ble_eq_true rfl⟩ rfl rfl ⟨Nat.zero_le _, Nat.zero_le _⟩ dX0_refusal_62 (fun H locs hP hS => ?_)
            refine lv_iload hx hb dX0_refusal_65 (lv_at hl 0 rfl) ?_
            refine lv_iadd hx hb dX0_refusal_67 ?_
            refine lv_iload_n hx hb dX0_refusal_68 rfl (lv_at hl 5 rfl) ?_
            refine lv_icmp_le (tgt := 74) hx hb dX0_refusal_69 (by decide) (fun c_69 => ?_) (fun c_69 => ?_)
            · have hnf := rsn_b hn c_69
              exact lp_74  hnf _ _ _ hP hS  (lv_sub hl [3, 4, 5, 6, 7, 8, 1] rfl)
            · refine lv_iconst (v := 2) hx hb dX0_refusal_72 (by decide) ?_
              exact z_iret C0 hP hS hr (⟨rfl, ((if_pos c_8).trans (rsn_c c_56 c_69 6 hk2)).symm⟩) dX0_refusal_73
    exact lp_21 _ 0 (Nat.zero_le _) rfl (Nat.lt_succ_self _) _ _ _ hP hS  (lv_sub hl [3, 4, 5, 2, 1, 0] rfl)
  · refine lv_iconst (v := 1) hx hb dX0_refusal_11 (by decide) ?_
    exact z_iret C0 hP hS hr (⟨rfl, (if_neg c_8).symm⟩) dX0_refusal_12
set_option maxHeartbeats 4000000 in
set_option maxRecDepth 100000 in
theorem m_X0_refusalOfPart (l : Launch) {D : va_G} {cy : Nat → ClassId} {K : Nat} {ad : Nat → Nat} {g : Nat → va_E} (sz : Nat) {n : Nat} {kn lo pa : Nat → Int32} {hu sl : Int32} {mm : Nat} {num room : Int32} (hC : isC cy K ad g n kn lo pa (nI mm) hu sl) (hm : mm ≤ 16) : Met l yX0_refusalOfPart (zs yX0_refusalOfPart cX0_refusalOfPart 3 (some .int)) ({ frames := 3, cells := 0, slots := 0, locals := 71 } : Room) (va_Pc [.ref (ad n), .int num, .int room] (zIn D cy K ad g sz)) (va_Qi (fun r g1 => g1 = g ∧ r = rop kn lo mm num room) (zOut D cy K ad sz) (zA K ad sz)) 0 0 (zA K ad sz) := by
  refine z_met (by decide) (Nat.le_of_ble_eq_true rfl) (fun p e s m below meth c ls hsz hl C0 hr hnm hP hS => ?_)
  subst hsz
  have hl : lv_has ls 3 [(0, .ref (ad n)), (1, .int num), (2, .int room)] := hl
  have hx := C0.1; have hb := C0.2.1; have hown := C0.2.2.2.1; have hts := C0.2.2.2.2.1
  refine lv_aload_n hx hb dX0_refusalOfPart_0 rfl (lv_at hl 0 rfl) ?_
  refine z_get C0 hP hC.n0 hC.o fd_X0_21 rfl dX0_refusalOfPart_1 ?_
  refine lv_bipush (v := 16) hx hb dX0_refusalOfPart_4 (by decide) ?_
  refine lv_icmp_lt (tgt := 13) hx hb dX0_refusalOfPart_6 (by decide) (fun c_6 => ?_) (fun c_6 => ?_)
  · have hm2 : mm < 16 := z_lt_t (b := 16) c_6 (by omega) (by omega)
    refine lv_aload_n hx hb dX0_refusalOfPart_13 rfl (lv_at hl 0 rfl) ?_
    refine lv_iload_n hx hb dX0_refusalOfPart_14 rfl (lv_at hl 1 rfl) ?_
    refine lv_iload_n hx hb dX0_refusalOfPart_15 rfl (lv_at hl 2 rfl) ?_
    refine z_Vi_eq (As := [.int num, .int room]) (rest := []) C0 hP hS hl.1 (m_X0_refusal l _ hC) lk_X0_66 hC.n0 hC.o rfl rfl (Nat.le_of_ble_eq_true rfl) ⟨Nat.le_of_ble_eq_true rfl, Nat.le_of_ble_eq_true rfl⟩ rfl rfl ⟨Nat.zero_le _, Nat.zero_le _⟩ dX0_refusalOfPart_16 (fun H locs hP hS => ?_)
    exact z_iret C0 hP hS hr (⟨rfl, (if_pos hm2).symm⟩) dX0_refusalOfPart_19
  · have hm2 : 16 ≤ mm := z_lt_f (b := 16) c_6 (by omega) (by omega)
    refine lv_iconst (v := 3) hx hb dX0_refusalOfPart_9 (by decide) ?_
    refine lv_goto (tgt := 19) hx hb dX0_refusalOfPart_10 (by decide) ?_
    exact z_iret C0 hP hS hr (⟨rfl, (if_neg (by omega)).symm⟩) dX0_refusalOfPart_19
set_option maxHeartbeats 4000000 in
set_option maxRecDepth 100000 in
theorem m_X0_tieKnots (l : Launch) {D : va_G} {cy : Nat → ClassId} {K : Nat} {ad : Nat → Nat} {g : Nat → va_E} (sz : Nat) {n : Nat} {kn lo pa : Nat → Int32} {pc hu sl : Int32} {num : Int32} (hC : isC cy K ad g n kn lo pa pc hu sl) : Met l yX0_tieKnots (zs yX0_tieKnots cX0_tieKnots 7 none) ({ frames := 2, cells := 0, slots := 0, locals := 43 } : Room) (va_Pc [.ref (ad n), .int num] (zIn D cy K ad g sz)) (va_Qv (fun g1 => isC cy K ad g1 n (tK kn lo num 6) (tL kn lo num 6) pa pc hu sl ∧ zFr (zRg n (n + 4)) g g1) (zOut D cy K ad sz) (zA K ad sz)) 0 0 (zA K ad sz) := by
  refine z_met (by decide) (Nat.le_of_ble_eq_true rfl) (fun p e s m below meth c ls hsz hl C0 hr hnm hP hS => ?_)
  subst hsz
  have hl : lv_has ls 7 [(0, .ref (ad n)), (1, .int num)] := hl
  have hx := C0.1; have hb := C0.2.1; have hown := C0.2.2.2.1; have hts := C0.2.2.2.2.1
  have hFr : zFr (zRg n (n + 4)) g g := zFr.rf
  refine lv_iload_n hx hb dX0_tieKnots_0 rfl (lv_at hl 1 rfl) ?_
  refine lv_istore_n (lv' := [(2, .int num), (0, .ref (ad n)), (1, .int num)]) hx hb dX0_tieKnots_1 rfl hl (by decide) rfl (fun ls hl => ?_)
  refine lv_iconst (v := 0) hx hb dX0_tieKnots_2 (by decide) ?_
  refine lv_istore_n (lv' := [(3, .int 0), (2, .int num), (0, .ref (ad n)), (1, .int num)]) hx hb dX0_tieKnots_3 rfl hl (by decide) rfl (fun ls hl => ?_)
  refine lv_iconst (v := 0) hx hb dX0_tieKnots_4 (by decide) ?_
  refine lv_istore (lv' := [(4, .int 0), (3, .int 0), (2, .int num), (0, .ref (ad n)), (1, .int num)]) hx hb dX0_tieKnots_5 hl (by decide) rfl (fun ls hl => ?_)
  have lp_7 : ∀ (N : Nat) (k : Nat) (hk : k ≤ 6), 6 - k < N → ∀ (g_1 : Nat → va_E) (H : Heap) (locs : List Loc) (ls : Array Slot), zP D K ad g_1 (zA K ad s.heap.size) H → va_S (zA K ad s.heap.size) s.heap H locs → isC cy K ad g_1 n (tK kn lo num k) (tL kn lo num k) pa pc hu sl → zFr (zRg n (n + 4)) g g_1 → lv_has ls 7 [(0, .ref (ad n)), (2, .int (lrest num k)), (3, .int (lcar kn lo num k)), (4, .int (nI k))] → W p l e ({ frames := 2, cells := 0, slots := 0, locals := 43 } : Room) s m [.ref (ad n), .int num].toArray below meth c H locs 0 0 (MQ below (va_Qv (fun g1 => isC cy K ad g1 n (tK kn lo num 6) (tL kn lo num 6) pa pc hu sl ∧ zFr (zRg n (n + 4)) g g1) (zOut D cy K ad s.heap.size) (zA K ad s.heap.size)) [.ref (ad n), .int num].toArray s 0 0 (zA K ad s.heap.size)) (F0 m 7 ls []) := by
    intro N
    induction N with
    | zero => intro k hk hN; exact absurd hN (Nat.not_lt_zero _)
    | succ N ih_7 =>
      intro k hk hN g_1 H locs ls hP hS hC hFr hl
      refine lv_iload hx hb dX0_tieKnots_7 (lv_at hl 3 rfl) ?_
      refine lv_bipush (v := 6) hx hb dX0_tieKnots_9 (by decide) ?_
      refine lv_icmp_ge (tgt := 70) hx hb dX0_tieKnots_11 (by decide) (fun c_11 => ?_) (fun c_11 => ?_)
      · have hk2 : k = 6 := by have := z_ge_t (b := 6) c_11 (by omega) (by omega); omega
        subst hk2
        exact z_vret C0 hP hS hr (⟨hC, hFr⟩) dX0_tieKnots_70
      · have hk2 : k < 6 := z_ge_f (b := 6) c_11 (by omega) (by omega)
        refine lv_iload_n hx hb dX0_tieKnots_14 rfl (lv_at hl 1 rfl) ?_
        refine lv_bipush (v := 10) hx hb dX0_tieKnots_15 (by decide) ?_
        refine lv_irem hx hb dX0_tieKnots_17 (by decide) ?_
        refine lv_iload_n hx hb dX0_tieKnots_18 rfl (lv_at hl 2 rfl) ?_
        refine lv_iadd hx hb dX0_tieKnots_19 ?_
        refine z_topi (y := mK kn lo num k) rfl ?_
        refine lv_istore (lv' := [(5, .int (mK kn lo num k)), (0, .ref (ad n)), (2, .int (lrest num k)), (3, .int (lcar kn lo num k)), (4, .int (nI k))]) hx hb dX0_tieKnots_20 hl (by decide) rfl (fun ls hl => ?_)
        refine lv_aload_n hx hb dX0_tieKnots_22 rfl (lv_at hl 1 rfl) ?_
        refine lv_iload hx hb dX0_tieKnots_23 (lv_at hl 4 rfl) ?_
        refine lv_iload hx hb dX0_tieKnots_25 (lv_at hl 0 rfl) ?_
        refine z_Vi_eq (As := [.int (nI k), .int (mK kn lo num k)]) (rest := []) C0 hP hS hl.1 (m_X0_loopsFor l _ hC hk2) lk_X0_59 hC.n0 hC.o rfl rfl (Nat.le_of_ble_eq_true rfl) ⟨Nat.le_of_ble_eq_true rfl, Nat.le_of_ble_eq_true rfl⟩ rfl rfl ⟨Nat.zero_le _, Nat.zero_le _⟩ dX0_tieKnots_27 (fun H locs hP hS => ?_)
        refine z_topi (y := mL kn lo num k) (by rw [opn_t, mL]) ?_
        refine lv_istore (lv' := [(6, .int (mL kn lo num k)), (5, .int (mK kn lo num k)), (0, .ref (ad n)), (2, .int (lrest num k)), (3, .int (lcar kn lo num k)), (4, .int (nI k))]) hx hb dX0_tieKnots_30 hl (by decide) rfl (fun ls hl => ?_)
        refine lv_aload_n hx hb dX0_tieKnots_32 rfl (lv_at hl 2 rfl) ?_
        refine z_get C0 hP hC.n0 hC.o fd_X0_9 rfl dX0_tieKnots_33 ?_
        refine lv_iload hx hb dX0_tieKnots_36 (lv_at hl 5 rfl) ?_
        refine lv_dup2_11 hx hb dX0_tieKnots_38 rfl rfl ?_
        refine z_iald C0 hP hC.n1 hC.a_kn (zIx_nI (by omega) (by decide)) dX0_tieKnots_39 ?_
        refine lv_iload hx hb dX0_tieKnots_40 (lv_at hl 1 rfl) ?_
        refine lv_iadd hx hb dX0_tieKnots_42 ?_
        refine zp_C_kn C0 hP hS hC hFr (by simp only [zOne, zRg]; omega) (zIx_nI (by omega) (by decide)) dX0_tieKnots_43 (fun g_2 H locs hP hS hC hFr hF1 => ?_)
        refine lv_aload_n hx hb dX0_tieKnots_44 rfl (lv_at hl 2 rfl) ?_
        refine z_get C0 hP hC.n0 hC.o fd_X0_15 rfl dX0_tieKnots_45 ?_
        refine lv_iload hx hb dX0_tieKnots_48 (lv_at hl 5 rfl) ?_
        refine lv_dup2_11 hx hb dX0_tieKnots_50 rfl rfl ?_
        refine z_iald C0 hP hC.n2 hC.a_lo (zIx_nI (by omega) (by decide)) dX0_tieKnots_51 ?_
        refine lv_iload hx hb dX0_tieKnots_52 (lv_at hl 0 rfl) ?_
        refine lv_iadd hx hb dX0_tieKnots_54 ?_
        refine zp_C_lo C0 hP hS hC hFr (by simp only [zOne, zRg]; omega) (zIx_nI (by omega) (by decide)) dX0_tieKnots_55 (fun g_3 H locs hP hS hC hFr hF1 => ?_)
        rw [tK_up, tL_up] at hC
        refine lv_iload_n hx hb dX0_tieKnots_56 rfl (lv_at hl 3 rfl) ?_
        refine lv_bipush (v := 10) hx hb dX0_tieKnots_57 (by decide) ?_
        refine lv_idiv hx hb dX0_tieKnots_59 (by decide) ?_
        refine lv_istore_n (lv' := [(2, .int ((lrest num k) / 10)), (6, .int (mL kn lo num k)), (5, .int (mK kn lo num k)), (0, .ref (ad n)), (3, .int (lcar kn lo num k)), (4, .int (nI k))]) hx hb dX0_tieKnots_60 rfl hl (by decide) rfl (fun ls hl => ?_)
        refine lv_iload hx hb dX0_tieKnots_61 (lv_at hl 1 rfl) ?_
        refine lv_istore_n (lv' := [(3, .int (mL kn lo num k)), (2, .int ((lrest num k) / 10)), (6, .int (mL kn lo num k)), (5, .int (mK kn lo num k)), (0, .ref (ad n)), (4, .int (nI k))]) hx hb dX0_tieKnots_63 rfl hl (by decide) rfl (fun ls hl => ?_)
        refine lv_iinc (v := nI (k + 1)) (lv' := [(4, .int (nI (k + 1))), (3, .int (mL kn lo num k)), (2, .int ((lrest num k) / 10)), (6, .int (mL kn lo num k)), (5, .int (mK kn lo num k)), (0, .ref (ad n))]) hx hb dX0_tieKnots_64 hl (k := 5) rfl (z_inc _) (by decide) rfl (fun ls hl => ?_)
        refine lv_goto (tgt := 7) hx hb dX0_tieKnots_67 (by decide) ?_
        exact ih_7 (k + 1) hk2 (by omega) _ _ _ _ hP hS hC hFr (lv_sub hl [5, 2, 1, 0] rfl)
  have hC : isC cy K ad g n (tK kn lo num 0) (tL kn lo num 0) pa pc hu sl := by rw [tK_0, tL_0]; exact hC
  exact lp_7 _ 0 (Nat.zero_le _) (Nat.lt_succ_self _) _ _ _ _ hP hS hC hFr (lv_sub hl [3, 2, 1, 0] rfl)
set_option maxHeartbeats 4000000 in
set_option maxRecDepth 100000 in
theorem m_X0_tieAsPart (l : Launch) {D : va_G} {cy : Nat → ClassId} {K : Nat} {ad : Nat → Nat} {g : Nat → va_E} (sz : Nat) {n : Nat} {kn lo pa : Nat → Int32} {hu sl : Int32} {mm : Nat} {num : Int32} (hC : isC cy K ad g n kn lo pa (nI mm) hu sl) (hm : mm < 16) : Met l yX0_tieAsPart (zs yX0_tieAsPart cX0_tieAsPart 2 none) ({ frames := 3, cells := 0, slots := 0, locals := 69 } : Room) (va_Pc [.ref (ad n), .int num] (zIn D cy K ad g sz)) (va_Qv (fun g1 => isC cy K ad g1 n (tK kn lo num 6) (tL kn lo num 6) (upd pa mm num) (nI (mm + 1)) hu sl ∧ zFr (zRg n (n + 4)) g g1) (zOut D cy K ad sz) (zA K ad sz)) 0 0 (zA K ad sz) := by
  refine z_met (by decide) (Nat.le_of_ble_eq_true rfl) (fun p e s m below meth c ls hsz hl C0 hr hnm hP hS => ?_)
  subst hsz
  have hl : lv_has ls 2 [(0, .ref (ad n)), (1, .int num)] := hl
  have hx := C0.1; have hb := C0.2.1; have hown := C0.2.2.2.1; have hts := C0.2.2.2.2.1
  have hFr : zFr (zRg n (n + 4)) g g := zFr.rf
  refine lv_aload_n hx hb dX0_tieAsPart_0 rfl (lv_at hl 0 rfl) ?_
  refine z_get C0 hP hC.n0 hC.o fd_X0_21 rfl dX0_tieAsPart_1 ?_
  refine lv_bipush (v := 16) hx hb dX0_tieAsPart_4 (by decide) ?_
  refine lv_icmp_ge (tgt := 34) hx hb dX0_tieAsPart_6 (by decide) (fun c_6 => absurd (z_ge_t (b := 16) c_6 (by omega) (by omega)) (by omega)) (fun c_6 => ?_)
  refine lv_aload_n hx hb dX0_tieAsPart_9 rfl (lv_at hl 0 rfl) ?_
  refine z_get C0 hP hC.n0 hC.o fd_X0_18 rfl dX0_tieAsPart_10 ?_
  refine lv_aload_n hx hb dX0_tieAsPart_13 rfl (lv_at hl 0 rfl) ?_
  refine z_get C0 hP hC.n0 hC.o fd_X0_21 rfl dX0_tieAsPart_14 ?_
  refine lv_iload_n hx hb dX0_tieAsPart_17 rfl (lv_at hl 1 rfl) ?_
  refine zp_C_pa C0 hP hS hC hFr (by simp only [zOne, zRg]; omega) (zIx_nI (by omega) (by decide)) dX0_tieAsPart_18 (fun g_1 H locs hP hS hC hFr hF1 => ?_)
  refine lv_aload_n hx hb dX0_tieAsPart_19 rfl (lv_at hl 0 rfl) ?_
  refine lv_dup hx hb dX0_tieAsPart_20 rfl ?_
  refine z_get C0 hP hC.n0 hC.o fd_X0_21 rfl dX0_tieAsPart_21 ?_
  refine lv_iconst (v := 1) hx hb dX0_tieAsPart_24 (by decide) ?_
  refine lv_iadd hx hb dX0_tieAsPart_25 ?_
  refine z_topi (y := nI (mm + 1)) (nI_1 _) ?_
  refine zp_C_pc C0 hP hS hC hFr (by simp only [zOne, zRg]; omega) fp_X0_21 dX0_tieAsPart_26 (fun g_2 H locs hP hS hC hFr hF1 => ?_)
  refine lv_aload_n hx hb dX0_tieAsPart_29 rfl (lv_at hl 0 rfl) ?_
  refine lv_iload_n hx hb dX0_tieAsPart_30 rfl (lv_at hl 1 rfl) ?_
  refine z_Vv_mo (As := [.int num]) (rest := []) C0 hP hS hl.1 (m_X0_tieKnots l _ hC) lk_X0_69 hC.n0 hC.o rfl rfl (Nat.le_of_ble_eq_true rfl) ⟨Nat.le_of_ble_eq_true rfl, Nat.le_of_ble_eq_true rfl⟩ rfl rfl ⟨Nat.zero_le _, Nat.zero_le _⟩ dX0_tieAsPart_31 (fun g_3 H locs hP hS hp => ?_)
  obtain ⟨hC, hF1⟩ := hp
  have hFr := hFr.tr (hF1.mono (by intro x9 hx9; simp only [zOne, zRg] at hx9 ⊢; omega))
  exact z_vret C0 hP hS hr (⟨hC, hFr⟩) dX0_tieAsPart_34
set_option maxHeartbeats 4000000 in
set_option maxRecDepth 100000 in
theorem m_X0_becomeNew (l : Launch) {D : va_G} {cy : Nat → ClassId} {K : Nat} {ad : Nat → Nat} {g : Nat → va_E} (sz : Nat) {n : Nat} {kn lo pa : Nat → Int32} {pc hu sl : Int32} (hC : isC cy K ad g n kn lo pa pc hu sl) : Met l yX0_becomeNew (zs yX0_becomeNew cX0_becomeNew 2 none) ({ frames := 0, cells := 0, slots := 0, locals := 0 } : Room) (va_Pc [.ref (ad n)] (zIn D cy K ad g sz)) (va_Qv (fun g1 => isC cy K ad g1 n (zK kn 6) (zK lo 6) pa (nI 0) hu 0 ∧ zFr (zRg n (n + 4)) g g1) (zOut D cy K ad sz) (zA K ad sz)) 0 0 (zA K ad sz) := by
  refine z_met (by decide) (Nat.le_of_ble_eq_true rfl) (fun p e s m below meth c ls hsz hl C0 hr hnm hP hS => ?_)
  subst hsz
  have hl : lv_has ls 2 [(0, .ref (ad n))] := hl
  have hx := C0.1; have hb := C0.2.1; have hown := C0.2.2.2.1; have hts := C0.2.2.2.2.1
  have hFr : zFr (zRg n (n + 4)) g g := zFr.rf
  refine lv_iconst (v := 0) hx hb dX0_becomeNew_0 (by decide) ?_
  refine lv_istore_n (lv' := [(1, .int 0), (0, .ref (ad n))]) hx hb dX0_becomeNew_1 rfl hl (by decide) rfl (fun ls hl => ?_)
  have lp_2 : ∀ (N : Nat) (k : Nat) (hk : k ≤ 6), 6 - k < N → ∀ (g_1 : Nat → va_E) (H : Heap) (locs : List Loc) (ls : Array Slot), zP D K ad g_1 (zA K ad s.heap.size) H → va_S (zA K ad s.heap.size) s.heap H locs → isC cy K ad g_1 n (zK kn k) (zK lo k) pa pc hu sl → zFr (zRg n (n + 4)) g g_1 → lv_has ls 2 [(0, .ref (ad n)), (1, .int (nI k))] → W p l e ({ frames := 0, cells := 0, slots := 0, locals := 0 } : Room) s m [.ref (ad n)].toArray below meth c H locs 0 0 (MQ below (va_Qv (fun g1 => isC cy K ad g1 n (zK kn 6) (zK lo 6) pa (nI 0) hu 0 ∧ zFr (zRg n (n + 4)) g g1) (zOut D cy K ad s.heap.size) (zA K ad s.heap.size)) [.ref (ad n)].toArray s 0 0 (zA K ad s.heap.size)) (F0 m 2 ls []) := by
    intro N
    induction N with
    | zero => intro k hk hN; exact absurd hN (Nat.not_lt_zero _)
    | succ N ih_2 =>
      intro k hk hN g_1 H locs ls hP hS hC hFr hl
      refine lv_iload_n hx hb dX0_becomeNew_2 rfl (lv_at hl 1 rfl) ?_
      refine lv_bipush (v := 6) hx hb dX0_becomeNew_3 (by decide) ?_
      refine lv_icmp_ge (tgt := 28) hx hb dX0_becomeNew_5 (by decide) (fun c_5 => ?_) (fun c_5 => ?_)
      · have hk2 : k = 6 := by have := z_ge_t (b := 6) c_5 (by omega) (by omega); omega
        subst hk2
        refine lv_aload_n hx hb dX0_becomeNew_28 rfl (lv_at hl 0 rfl) ?_
        refine lv_iconst (v := (nI 0)) hx hb dX0_becomeNew_29 (by decide) ?_
        refine zp_C_pc C0 hP hS hC hFr (by simp only [zOne, zRg]; omega) fp_X0_21 dX0_becomeNew_30 (fun g_2 H locs hP hS hC hFr hF1 => ?_)
        refine lv_aload_n hx hb dX0_becomeNew_33 rfl (lv_at hl 0 rfl) ?_
        refine lv_iconst (v := 0) hx hb dX0_becomeNew_34 (by decide) ?_
        refine zp_C_sl C0 hP hS hC hFr (by simp only [zOne, zRg]; omega) fp_X0_28 dX0_becomeNew_35 (fun g_3 H locs hP hS hC hFr hF1 => ?_)
        exact z_vret C0 hP hS hr (⟨hC, hFr⟩) dX0_becomeNew_38
      · have hk2 : k < 6 := z_ge_f (b := 6) c_5 (by omega) (by omega)
        refine lv_aload_n hx hb dX0_becomeNew_8 rfl (lv_at hl 0 rfl) ?_
        refine z_get C0 hP hC.n0 hC.o fd_X0_9 rfl dX0_becomeNew_9 ?_
        refine lv_iload_n hx hb dX0_becomeNew_12 rfl (lv_at hl 1 rfl) ?_
        refine lv_iconst (v := 0) hx hb dX0_becomeNew_13 (by decide) ?_
        refine zp_C_kn C0 hP hS hC hFr (by simp only [zOne, zRg]; omega) (zIx_nI (by omega) (by decide)) dX0_becomeNew_14 (fun g_4 H locs hP hS hC hFr hF1 => ?_)
        refine lv_aload_n hx hb dX0_becomeNew_15 rfl (lv_at hl 0 rfl) ?_
        refine z_get C0 hP hC.n0 hC.o fd_X0_15 rfl dX0_becomeNew_16 ?_
        refine lv_iload_n hx hb dX0_becomeNew_19 rfl (lv_at hl 1 rfl) ?_
        refine lv_iconst (v := 0) hx hb dX0_becomeNew_20 (by decide) ?_
        refine zp_C_lo C0 hP hS hC hFr (by simp only [zOne, zRg]; omega) (zIx_nI (by omega) (by decide)) dX0_becomeNew_21 (fun g_5 H locs hP hS hC hFr hF1 => ?_)
        rw [zK_up, zK_up] at hC
        refine lv_iinc (v := nI (k + 1)) (lv' := [(1, .int (nI (k + 1))), (0, .ref (ad n))]) hx hb dX0_becomeNew_22 hl (k := 1) rfl (z_inc _) (by decide) rfl (fun ls hl => ?_)
        refine lv_goto (tgt := 2) hx hb dX0_becomeNew_25 (by decide) ?_
        exact ih_2 (k + 1) hk2 (by omega) _ _ _ _ hP hS hC hFr (lv_sub hl [1, 0] rfl)
  have hC : isC cy K ad g n (zK kn 0) (zK lo 0) pa pc hu sl := by rw [zK_0, zK_0]; exact hC
  exact lp_2 _ 0 (Nat.zero_le _) (Nat.lt_succ_self _) _ _ _ _ hP hS hC hFr (lv_sub hl [1, 0] rfl)
end
section
/-! ===== System.arraycopy over the pool ===== -/
section ZCP
variable {p : Program} {l : Launch} {e : Env} {R : Room} {s0 : State} {m : MethodId} {args : Array Value} {below : List Frame} {meth : Method} {c : Code} {H : Heap} {locs : List Loc} {cells slots : Nat} {Q : State → Prop}
variable {D : va_G} {cy : Nat → ClassId} {K : Nat} {ad : Nat → Nat} {g g0 : Nat → va_E} {A P : Nat → Prop} {cc : ByteArray} {own : String} {nL pc9 : Nat} {ls : Array Slot} {rest : List Value}
theorem z_copy (C0 : zC p s0 m args c meth cc nL own D cy A) (hP : zP D K ad g A H) (hS : va_S A s0.heap H locs) (hsz : ls.size = nL) {a b n0 n1 N index : Nat} {f fg : Nat → Int32} {nn : Int32} (ha : a < K) (hb9 : b < K) (hea : g a = .inl (cy 1, n0, .inl f)) (heb : g b = .inl (cy 1, n1, .inl fg)) (hn : nn = nI N) (h4 : N ≤ n0) (h5 : N ≤ n1) (hN : N < 2 ^ 31)
    (hlink : Cond.methodLink own index arraycopyName ∈ zW) (hnat : Cond.native arraycopyName ∈ zW) (hstat : Cond.static arraycopyName ∈ zW) (hini : Cond.initialized "java/lang/System" ∈ zW) (hRf : 1 ≤ R.frames) (hRl : 40 ≤ R.locals) (hrest : (rest.map fun v => v.category).sum ≤ 8) (hdg : decode cc pc9 = .ok (.invokestatic index, 3))
    (kk : ∀ (H1 : Heap) (locs1 : List Loc), zP D K ad (va_up g b (.inl (cy 1, n1, .inl (va_cpy f fg 0 0 N)))) A H1 → va_S A s0.heap H1 locs1 → W p l e R s0 m args below meth c H1 locs1 cells slots Q (F0 m (pc9 + 3) ls rest)) : W p l e R s0 m args below meth c H locs cells slots Q (F0 m pc9 ls (.int nn :: .int 0 :: .ref (ad b) :: .int 0 :: .ref (ad a) :: rest)) := by
  obtain ⟨hx, hb, hml, hown, hts, hK, hA, hlk⟩ := C0
  have hqa := zw_get (K := K) (ad := ad) (g := g) ha
  rw [hea] at hqa
  have hqb := zw_get (K := K) (ad := ad) (g := g) hb9
  rw [heb] at hqb
  have z0 : (0 : Int32).toNatClampNeg = 0 := by decide
  have zn : nn.toNatClampNeg = N := by rw [hn]; exact nI_clamp hN
  refine va_copyi hx hb (hml.trans hsz.symm) hown (hts _ hlink) (hts _ hnat) (hts _ hstat) (hts _ hini) hK hP.1 hP.2 hS a b 1 1 hqa hqb rfl rfl rfl (by decide) (by decide) (by rw [hn]; exact nI_pos hN) (by rw [z0, zn]; omega) (by rw [z0, zn]; omega) (fun i hi => rfl) hRf ?_ hdg (fun H1 locs1 h1 h2 h3 => ?_)
  · have : nativeFrameWords "java/lang/System" "arraycopy" 5 + 11 ≤ 32 := by decide +kernel
    omega
  · rw [z0, zn, zw_set hb9] at h1 h2
    exact kk H1 locs1 ⟨h1, h2⟩ h3
theorem z_copyC_kn (C0 : zC p s0 m args c meth cc nL own D cy A) (hP : zP D K ad g A H) (hS : va_S A s0.heap H locs) (hsz : ls.size = nL) {n a n0 : Nat} {f kn lo pa : Nat → Int32} {pc hu sl nn : Int32} {index : Nat} (h : isC cy K ad g n kn lo pa pc hu sl) (hFr : zFr P g0 g) (hp : P (n + 1)) (ha : a < K) (hea : g a = .inl (cy 1, n0, .inl f)) (hn : nn = nI 6) (h4 : 6 ≤ n0)
    (hlink : Cond.methodLink own index arraycopyName ∈ zW) (hRf : 1 ≤ R.frames) (hRl : 40 ≤ R.locals) (hrest : (rest.map fun v => v.category).sum ≤ 8) (hdg : decode cc pc9 = .ok (.invokestatic index, 3))
    (kk : ∀ (g1 : Nat → va_E) (H1 : Heap) (locs1 : List Loc), zP D K ad g1 A H1 → va_S A s0.heap H1 locs1 → isC cy K ad g1 n (va_cpy f kn 0 0 6) lo pa pc hu sl → zFr P g0 g1 → zFr (zOne (n + 1)) g g1 → W p l e R s0 m args below meth c H1 locs1 cells slots Q (F0 m (pc9 + 3) ls rest)) : W p l e R s0 m args below meth c H locs cells slots Q (F0 m pc9 ls (.int nn :: .int 0 :: .ref (ad (n + 1)) :: .int 0 :: .ref (ad a) :: rest)) :=
  z_copy C0 hP hS hsz ha h.n1 hea h.a_kn hn h4 (by decide) (by decide) hlink q502 q501 q64 hRf hRl hrest hdg (fun H1 locs1 h1 h2 => kk _ H1 locs1 h1 h2 ⟨h.1, (va_up_ne _ _ (by omega)).trans h.o, va_up_self _ _ _, (va_up_ne _ _ (by omega)).trans h.a_lo, (va_up_ne _ _ (by omega)).trans h.a_pa⟩ (hFr.up hp) (zFr.up zFr.rf rfl))
theorem z_copyC_lo (C0 : zC p s0 m args c meth cc nL own D cy A) (hP : zP D K ad g A H) (hS : va_S A s0.heap H locs) (hsz : ls.size = nL) {n a n0 : Nat} {f kn lo pa : Nat → Int32} {pc hu sl nn : Int32} {index : Nat} (h : isC cy K ad g n kn lo pa pc hu sl) (hFr : zFr P g0 g) (hp : P (n + 2)) (ha : a < K) (hea : g a = .inl (cy 1, n0, .inl f)) (hn : nn = nI 6) (h4 : 6 ≤ n0)
    (hlink : Cond.methodLink own index arraycopyName ∈ zW) (hRf : 1 ≤ R.frames) (hRl : 40 ≤ R.locals) (hrest : (rest.map fun v => v.category).sum ≤ 8) (hdg : decode cc pc9 = .ok (.invokestatic index, 3))
    (kk : ∀ (g1 : Nat → va_E) (H1 : Heap) (locs1 : List Loc), zP D K ad g1 A H1 → va_S A s0.heap H1 locs1 → isC cy K ad g1 n kn (va_cpy f lo 0 0 6) pa pc hu sl → zFr P g0 g1 → zFr (zOne (n + 2)) g g1 → W p l e R s0 m args below meth c H1 locs1 cells slots Q (F0 m (pc9 + 3) ls rest)) : W p l e R s0 m args below meth c H locs cells slots Q (F0 m pc9 ls (.int nn :: .int 0 :: .ref (ad (n + 2)) :: .int 0 :: .ref (ad a) :: rest)) :=
  z_copy C0 hP hS hsz ha h.n2 hea h.a_lo hn h4 (by decide) (by decide) hlink q502 q501 q64 hRf hRl hrest hdg (fun H1 locs1 h1 h2 => kk _ H1 locs1 h1 h2 ⟨h.1, (va_up_ne _ _ (by omega)).trans h.o, (va_up_ne _ _ (by omega)).trans h.a_kn, va_up_self _ _ _, (va_up_ne _ _ (by omega)).trans h.a_pa⟩ (hFr.up hp) (zFr.up zFr.rf rfl))
theorem z_copyC_pa (C0 : zC p s0 m args c meth cc nL own D cy A) (hP : zP D K ad g A H) (hS : va_S A s0.heap H locs) (hsz : ls.size = nL) {n a n0 : Nat} {f kn lo pa : Nat → Int32} {pc hu sl nn : Int32} {index : Nat} (h : isC cy K ad g n kn lo pa pc hu sl) (hFr : zFr P g0 g) (hp : P (n + 3)) (ha : a < K) (hea : g a = .inl (cy 1, n0, .inl f)) (hn : nn = nI 16) (h4 : 16 ≤ n0)
    (hlink : Cond.methodLink own index arraycopyName ∈ zW) (hRf : 1 ≤ R.frames) (hRl : 40 ≤ R.locals) (hrest : (rest.map fun v => v.category).sum ≤ 8) (hdg : decode cc pc9 = .ok (.invokestatic index, 3))
    (kk : ∀ (g1 : Nat → va_E) (H1 : Heap) (locs1 : List Loc), zP D K ad g1 A H1 → va_S A s0.heap H1 locs1 → isC cy K ad g1 n kn lo (va_cpy f pa 0 0 16) pc hu sl → zFr P g0 g1 → zFr (zOne (n + 3)) g g1 → W p l e R s0 m args below meth c H1 locs1 cells slots Q (F0 m (pc9 + 3) ls rest)) : W p l e R s0 m args below meth c H locs cells slots Q (F0 m pc9 ls (.int nn :: .int 0 :: .ref (ad (n + 3)) :: .int 0 :: .ref (ad a) :: rest)) :=
  z_copy C0 hP hS hsz ha h.n3 hea h.a_pa hn h4 (by decide) (by decide) hlink q502 q501 q64 hRf hRl hrest hdg (fun H1 locs1 h1 h2 => kk _ H1 locs1 h1 h2 ⟨h.1, (va_up_ne _ _ (by omega)).trans h.o, (va_up_ne _ _ (by omega)).trans h.a_kn, (va_up_ne _ _ (by omega)).trans h.a_lo, va_up_self _ _ _⟩ (hFr.up hp) (zFr.up zFr.rf rfl))
end ZCP
section ZMM
variable {l : Launch} {y : MethodName} {ws : List Cond} {rm : Room} {Pc : Array Value → State → Prop} {Qc Qc' : Array Value → State → Outcome → State → Prop} {mc ms : Nat} {free : Addr → Prop}
theorem z_mono (h : Met l y ws rm Pc Qc mc ms free) (hq : ∀ a s o t, Pc a s → Qc a s o t → Qc' a s o t) : Met l y ws rm Pc Qc' mc ms free := by
  intro p e ha hc hk s m args below hf happ hP hK
  obtain ⟨n, o, h1, h2, h3, hQ, h4⟩ := h p e ha hc hk s m args below hf happ hP hK
  exact ⟨n, o, h1, h2, h3, hq _ _ _ _ hP hQ, h4⟩
theorem z_postI {post post' : Int32 → (Nat → va_E) → Prop} {B : (Nat → va_E) → State → Prop} {A : Nat → Prop} (h : Met l y ws rm Pc (va_Qi post B A) mc ms free) (hq : ∀ r g1, post r g1 → post' r g1) : Met l y ws rm Pc (va_Qi post' B A) mc ms free :=
  z_mono h (fun a s o t _ h => by
    obtain ⟨⟨r, u, h1, h2, h3⟩, h4⟩ := h
    exact ⟨⟨r, u, h1, hq r u h2, h3⟩, h4⟩)
theorem z_postV {post post' : (Nat → va_E) → Prop} {B : (Nat → va_E) → State → Prop} {A : Nat → Prop} (h : Met l y ws rm Pc (va_Qv post B A) mc ms free) (hq : ∀ g1, post g1 → post' g1) : Met l y ws rm Pc (va_Qv post' B A) mc ms free :=
  z_mono h (fun a s o t _ h => by
    obtain ⟨⟨u, h1, h2, h3⟩, h4⟩ := h
    exact ⟨⟨u, h1, hq u h2, h3⟩, h4⟩)
theorem z_postL {post post' : Int64 → (Nat → va_E) → Prop} {B : (Nat → va_E) → State → Prop} {A : Nat → Prop} (h : Met l y ws rm Pc (va_Ql post B A) mc ms free) (hq : ∀ r g1, post r g1 → post' r g1) : Met l y ws rm Pc (va_Ql post' B A) mc ms free :=
  z_mono h (fun a s o t _ h => by
    obtain ⟨⟨r, u, h1, h2, h3⟩, h4⟩ := h
    exact ⟨⟨r, u, h1, hq r u h2, h3⟩, h4⟩)
end ZMM
theorem zz_ring1 (a b c : Int32) : a + (b + c - b) = a + c := by grind
end
section
/-! ===== a cord and a herd by one row of numbers, laid out as the reference lays them: 0..5 what is counted and the setting, then 31 a cord ===== -/
def fK (st : Nat → Int32) (i : Nat) : Nat → Int32 := fun p => st (6 + 31 * i + (19 + p))
def fL (st : Nat → Int32) (i : Nat) : Nat → Int32 := fun p => st (6 + 31 * i + (25 + p))
def fP (st : Nat → Int32) (i : Nat) : Nat → Int32 := fun p => st (6 + 31 * i + (3 + p))
def isCs (cy : Nat → ClassId) (K : Nat) (ad : Nat → Nat) (g : Nat → va_E) (n : Nat) (x : Nat → Int32) : Prop := ∃ kn lo pa : Nat → Int32, isC cy K ad g n kn lo pa (x 1) (x 0) (x 2) ∧ (∀ p, p < 6 → kn p = x (19 + p)) ∧ (∀ p, p < 6 → lo p = x (25 + p)) ∧ (∀ k, k < 16 → pa k = x (3 + k))
def isH (cy : Nat → ClassId) (K : Nat) (ad : Nat → Nat) (g : Nat → va_E) (n : Nat) (st : Nat → Int32) : Prop := ∃ rw : Nat → Option Nat, isG cy K ad g n rw (st 5) (st 0) (st 1) (st 2) (st 3) (st 4) ∧ (∀ i, i < 7 → rw i = some (ad (n + 2 + 4 * i))) ∧ ∀ i, i < 7 → isCs cy K ad g (n + 2 + 4 * i) (fun j => st (6 + 31 * i + j))
section ZH
variable {cy : Nat → ClassId} {K : Nat} {ad : Nat → Nat} {g g1 : Nat → va_E} {n : Nat} {x y st st' : Nat → Int32} {P : Nat → Prop}
theorem isCs.lt (h : isCs cy K ad g n x) : n + 4 ≤ K := by obtain ⟨kn, lo, pa, h, -⟩ := h; exact h.1
theorem isCs.n0 (h : isCs cy K ad g n x) : n < K := by have := h.lt; omega
theorem isCs.rc (h : isCs cy K ad g n x) : ∃ fs, g n = .inr (0, fs) := by obtain ⟨kn, lo, pa, h, -⟩ := h; exact ⟨_, h.o⟩
theorem isCs.kept (h : isCs cy K ad g n x) (hf : zFr P g g1) (hd : ∀ z, n ≤ z → z < n + 4 → ¬ P z) : isCs cy K ad g1 n x := by
  obtain ⟨kn, lo, pa, h, h2⟩ := h
  exact ⟨kn, lo, pa, h.kept hf ⟨hd _ (by omega) (by omega), hd _ (by omega) (by omega), hd _ (by omega) (by omega), hd _ (by omega) (by omega)⟩, h2⟩
theorem isCs.congr (h : isCs cy K ad g n x) (he : ∀ j, j < 31 → x j = y j) : isCs cy K ad g n y := by
  obtain ⟨kn, lo, pa, h, h1, h2, h3⟩ := h
  refine ⟨kn, lo, pa, ?_, fun p hp => (h1 p hp).trans (he _ (by omega)), fun p hp => (h2 p hp).trans (he _ (by omega)), fun p hp => (h3 p hp).trans (he _ (by omega))⟩
  rw [← he 0 (by omega), ← he 1 (by omega), ← he 2 (by omega)]
  exact h
theorem isH.lt (h : isH cy K ad g n st) : n + 30 ≤ K := by
  obtain ⟨rw, h, -, h3⟩ := h
  have := (h3 6 (by omega)).lt
  omega
theorem isH.n0 (h : isH cy K ad g n st) : n < K := by have := h.lt; omega
theorem isH.rc (h : isH cy K ad g n st) : ∃ fs, g n = .inr (1, fs) := by obtain ⟨rw, h, -⟩ := h; exact ⟨_, h.o⟩
theorem isH.kept (h : isH cy K ad g n st) (hf : zFr P g g1) (hd : ∀ z, n ≤ z → z < n + 30 → ¬ P z) : isH cy K ad g1 n st := by
  obtain ⟨rw, h, h2, h3⟩ := h
  exact ⟨rw, h.kept hf ⟨hd _ (by omega) (by omega), hd _ (by omega) (by omega)⟩, h2, fun i hi => (h3 i hi).kept hf (fun z h1 h2 => hd z (by omega) (by omega))⟩
theorem isH.congr (h : isH cy K ad g n st) (he : ∀ j, j < 223 → st j = st' j) : isH cy K ad g n st' := by
  obtain ⟨rw, h, h2, h3⟩ := h
  refine ⟨rw, ?_, h2, fun i hi => (h3 i hi).congr (fun j hj => he _ (by omega))⟩
  rw [← he 0 (by omega), ← he 1 (by omega), ← he 2 (by omega), ← he 3 (by omega), ← he 4 (by omega), ← he 5 (by omega)]
  exact h
/-- a herd behind a change of its own numbers and of one cord -/
theorem isH.put (h : isH cy K ad g n st) {i : Nat} (hi : i < 7) {rw : Nat → Option Nat} {ro kt lt sl go re : Int32} (hrw : ∀ i, i < 7 → rw i = some (ad (n + 2 + 4 * i))) (hf : zFr (fun z => z = n ∨ (n + 2 + 4 * i ≤ z ∧ z < n + 2 + 4 * i + 4)) g g1) (hG : isG cy K ad g1 n rw ro kt lt sl go re) (hC : isCs cy K ad g1 (n + 2 + 4 * i) x)
    (e5 : ro = st' 5) (e0 : kt = st' 0) (e1 : lt = st' 1) (e2 : sl = st' 2) (e3 : go = st' 3) (e4 : re = st' 4) (ex : ∀ j, j < 31 → x j = st' (6 + 31 * i + j)) (eo : ∀ k, k < 7 → k ≠ i → ∀ j, j < 31 → st' (6 + 31 * k + j) = st (6 + 31 * k + j)) : isH cy K ad g1 n st' := by
  obtain ⟨rw0, h, h2, h3⟩ := h
  subst e5; subst e0; subst e1; subst e2; subst e3; subst e4
  refine ⟨rw, hG, hrw, fun k hk => ?_⟩
  by_cases hki : k = i
  · subst hki
    exact hC.congr ex
  · refine ((h3 k hk).kept hf (fun z h1 h2 => ?_)).congr (fun j hj => (eo k hk hki j hj).symm)
    show ¬ (z = n ∨ _)
    omega
end ZH
theorem opn_congr {kn lo kn' lo' : Nat → Int32} (h1 : ∀ p, p < 6 → kn p = kn' p) (h2 : ∀ p, p < 6 → lo p = lo' p) {p : Nat} (hp : p < 6) : opn kn lo p = opn kn' lo' p := by unfold opn; rw [h1 p hp, h2 p hp]
theorem tld_congr {kn lo kn' lo' : Nat → Int32} (h1 : ∀ p, p < 6 → kn p = kn' p) (h2 : ∀ p, p < 6 → lo p = lo' p) (k : Nat) : tld kn lo k = tld kn' lo' k := by
  induction k with
  | zero => rfl
  | succ k ih => show 10 * tld kn lo k + opn kn lo (5 - k) = 10 * tld kn' lo' k + opn kn' lo' (5 - k); rw [ih, opn_congr h1 h2 (by omega)]
theorem sumN_congr {f f' : Nat → Int32} {m : Nat} (h : ∀ k, k < m → f k = f' k) : sumN f m = sumN f' m := by
  induction m with
  | zero => rfl
  | succ m ih => show sumN f m + f m = sumN f' m + f' m; rw [ih (fun k hk => h k (by omega)), h m (by omega)]
theorem lcar_congr {kn lo kn' lo' : Nat → Int32} {num : Int32} (h1 : ∀ p, p < 6 → kn p = kn' p) (h2 : ∀ p, p < 6 → lo p = lo' p) {p : Nat} (hp : p ≤ 6) : lcar kn lo num p = lcar kn' lo' num p := by
  induction p with
  | zero => rfl
  | succ p ih => show (opn kn lo p + (_ + lcar kn lo num p)) / 10 = (opn kn' lo' p + (_ + lcar kn' lo' num p)) / 10; rw [ih (by omega), opn_congr h1 h2 (by omega)]
theorem mK_congr {kn lo kn' lo' : Nat → Int32} {num : Int32} (h1 : ∀ p, p < 6 → kn p = kn' p) (h2 : ∀ p, p < 6 → lo p = lo' p) {p : Nat} (hp : p < 6) : mK kn lo num p = mK kn' lo' num p := by unfold mK; rw [lcar_congr h1 h2 (by omega)]
theorem mL_congr {kn lo kn' lo' : Nat → Int32} {num : Int32} (h1 : ∀ p, p < 6 → kn p = kn' p) (h2 : ∀ p, p < 6 → lo p = lo' p) {p : Nat} (hp : p < 6) : mL kn lo num p = mL kn' lo' num p := by unfold mL; rw [opn_congr h1 h2 hp, mK_congr h1 h2 hp]
theorem rsn_congr {kn lo kn' lo' : Nat → Int32} {num room : Int32} (h1 : ∀ p, p < 6 → kn p = kn' p) (h2 : ∀ p, p < 6 → lo p = lo' p) {p : Nat} (hp : p ≤ 6) : rsn kn lo num room p = rsn kn' lo' num room p := by
  induction p with
  | zero => rfl
  | succ p ih =>
    show (if 0 < mK kn lo num p + mL kn lo num p ∧ room < kn p + lo p + (mK kn lo num p + mL kn lo num p) then 2 else rsn kn lo num room p) = (if 0 < mK kn' lo' num p + mL kn' lo' num p ∧ room < kn' p + lo' p + (mK kn' lo' num p + mL kn' lo' num p) then 2 else rsn kn' lo' num room p)
    rw [ih (by omega), mK_congr h1 h2 (by omega), mL_congr h1 h2 (by omega), h1 p (by omega), h2 p (by omega)]
theorem refuse_congr {kn lo kn' lo' : Nat → Int32} {num room : Int32} (h1 : ∀ p, p < 6 → kn p = kn' p) (h2 : ∀ p, p < 6 → lo p = lo' p) : refuse kn lo num room = refuse kn' lo' num room := by unfold refuse; rw [tld_congr h1 h2, rsn_congr h1 h2 (by omega)]
theorem rop_congr {kn lo kn' lo' : Nat → Int32} {m : Nat} {num room : Int32} (h1 : ∀ p, p < 6 → kn p = kn' p) (h2 : ∀ p, p < 6 → lo p = lo' p) : rop kn lo m num room = rop kn' lo' m num room := by unfold rop; rw [refuse_congr h1 h2]
theorem tK_congr {kn lo kn' lo' : Nat → Int32} {num : Int32} (h1 : ∀ p, p < 6 → kn p = kn' p) (h2 : ∀ p, p < 6 → lo p = lo' p) {p : Nat} (hp : p < 6) : tK kn lo num 6 p = tK kn' lo' num 6 p := by unfold tK; rw [if_pos hp, if_pos hp, h1 p hp, mK_congr h1 h2 hp]
theorem tL_congr {kn lo kn' lo' : Nat → Int32} {num : Int32} (h1 : ∀ p, p < 6 → kn p = kn' p) (h2 : ∀ p, p < 6 → lo p = lo' p) {p : Nat} (hp : p < 6) : tL kn lo num 6 p = tL kn' lo' num 6 p := by unfold tL; rw [if_pos hp, if_pos hp, h2 p hp, mL_congr h1 h2 hp]
theorem sumN_add (f f' : Nat → Int32) (m : Nat) : sumN (fun p => f p + f' p) m = sumN f m + sumN f' m := by
  induction m with
  | zero => rfl
  | succ m ih => show sumN _ m + (f m + f' m) = (sumN f m + f m) + (sumN f' m + f' m); rw [ih]; grind
theorem sumN_tK (kn lo : Nat → Int32) (num : Int32) : sumN (tK kn lo num 6) 6 = sumN kn 6 + sumN (mK kn lo num) 6 := by
  rw [← sumN_add]; exact sumN_congr (fun k hk => by simp [tK, hk])
theorem sumN_tL (kn lo : Nat → Int32) (num : Int32) : sumN (tL kn lo num 6) 6 = sumN lo 6 + sumN (mL kn lo num) 6 := by
  rw [← sumN_add]; exact sumN_congr (fun k hk => by simp [tL, hk])
theorem rop_lt {kn lo : Nat → Int32} {m : Nat} {num room : Int32} (h : rop kn lo m num room = 0) : m < 16 := by
  unfold rop at h
  split at h
  · assumption
  · exact absurd h (by decide)
def cTold (st : Nat → Int32) (i : Nat) : Int32 := tld (fK st i) (fL st i) 6
def cm (st : Nat → Int32) (i : Nat) : Nat := (st (6 + 31 * i + 1)).toNatClampNeg
def cParts (st : Nat → Int32) (i : Nat) : Int32 := sumN (fP st i) (cm st i)
def cTies (st : Nat → Int32) (i : Nat) : Int32 := sumN (fK st i) 6 + sumN (fL st i) 6
def pcOK (st : Nat → Int32) : Prop := ∀ i, i < 7 → st (6 + 31 * i + 1) = nI (cm st i) ∧ cm st i ≤ 16
def cRop (st : Nat → Int32) (i : Nat) (num : Int32) : Int32 := rop (fK st i) (fL st i) (cm st i) num (st 5)
def cRef (st : Nat → Int32) (i : Nat) (num : Int32) : Int32 := refuse (fK st i) (fL st i) num (st 5)
def knitF (st : Nat → Int32) (i : Nat) (num : Int32) : Nat → Int32 := fun x =>
  if x = 0 then st 0 + sumN (mK (fK st i) (fL st i) num) 6
  else if x = 1 then st 1 + sumN (mL (fK st i) (fL st i) num) 6
  else if 6 + 31 * i + 19 ≤ x ∧ x < 6 + 31 * i + 25 then st x + mK (fK st i) (fL st i) num (x - (6 + 31 * i + 19))
  else if 6 + 31 * i + 25 ≤ x ∧ x < 6 + 31 * i + 31 then st x + mL (fK st i) (fL st i) num (x - (6 + 31 * i + 25))
  else st x
def tieF (st : Nat → Int32) (i : Nat) (num : Int32) : Nat → Int32 := fun x =>
  if x = 6 + 31 * i + 1 then nI (cm st i + 1) else if x = 6 + 31 * i + (3 + cm st i) then num else knitF st i num x
def tieS (st : Nat → Int32) (i : Nat) (num : Int32) : Nat → Int32 := if cRop st i num = 0 then tieF st i num else upd st 4 (st 4 + 1)
def tieR (st : Nat → Int32) (i : Nat) (num : Int32) : Int32 := if cRop st i num = 0 then 10 + sumN (mL (fK st i) (fL st i) num) 6 else cRop st i num
def addS (st : Nat → Int32) (i j : Nat) : Nat → Int32 := if cTold st i = 0 then st else tieS st j (cTold st i)
def addR (st : Nat → Int32) (i j : Nat) : Int32 := if cTold st i = 0 then 0 else tieR st j (cTold st i)
def slipF (st : Nat → Int32) (i p : Nat) : Nat → Int32 := fun x => if x = 6 + 31 * i + (19 + p) then st x - 1 else if x = 6 + 31 * i + 2 then st x + 1 else if x = 2 then st 2 + 1 else st x
def slipS (st : Nat → Int32) (i p : Nat) : Nat → Int32 := if opn (fK st i) (fL st i) p = 0 then upd st 4 (st 4 + 1) else slipF st i p
def slipR (st : Nat → Int32) (i p : Nat) : Int32 := if opn (fK st i) (fL st i) p = 0 then -1 else fK st i p - 1 - 10 * fL st i p
def cLack (st : Nat → Int32) (i : Nat) : Int32 := cParts st i - cTold st i
def mendS (st : Nat → Int32) (i : Nat) : Nat → Int32 := if cLack st i = 0 then st else if cRef st i (cLack st i) = 0 then knitF st i (cLack st i) else upd st 4 (st 4 + 1)
def mendR (st : Nat → Int32) (i : Nat) : Int32 := if cLack st i = 0 then 0 else if cRef st i (cLack st i) = 0 then cLack st i else - cRef st i (cLack st i)
/-- a new cord, as the class makes it: what lies beyond the count of the parts stays -/
def renF (st : Nat → Int32) (i : Nat) : Nat → Int32 := fun x => if x = 3 then st 3 + cTies st i else if x = 6 + 31 * i + 1 ∨ x = 6 + 31 * i + 2 then 0 else if 6 + 31 * i + 19 ≤ x ∧ x < 6 + 31 * i + 31 then 0 else st x
end
section
set_option maxHeartbeats 4000000 in
set_option maxRecDepth 100000 in
theorem m_X0_copyFrom (l : Launch) {D : va_G} {cy : Nat → ClassId} {K : Nat} {ad : Nat → Nat} {g : Nat → va_E} (sz : Nat) {n n2 : Nat} {kn lo pa kn2 lo2 pa2 : Nat → Int32} {pc hu sl pc2 hu2 sl2 : Int32} (hC : isC cy K ad g n kn lo pa pc hu sl) (hD : isC cy K ad g n2 kn2 lo2 pa2 pc2 hu2 sl2) (hd : n + 4 ≤ n2 ∨ n2 + 4 ≤ n) : Met l yX0_copyFrom (zs yX0_copyFrom cX0_copyFrom 2 none) ({ frames := 1, cells := 0, slots := 0, locals := 60 } : Room) (va_Pc [.ref (ad n), .ref (ad n2)] (zIn D cy K ad g sz)) (va_Qv (fun g1 => isC cy K ad g1 n (va_cpy kn2 kn 0 0 6) (va_cpy lo2 lo 0 0 6) (va_cpy pa2 pa 0 0 16) pc2 hu2 sl2 ∧ zFr (zRg n (n + 4)) g g1) (zOut D cy K ad sz) (zA K ad sz)) 0 0 (zA K ad sz) := by
  refine z_met (by decide) (Nat.le_of_ble_eq_true rfl) (fun p e s m below meth c ls hsz hl C0 hr hnm hP hS => ?_)
  subst hsz
  have hl : lv_has ls 2 [(0, .ref (ad n)), (1, .ref (ad n2))] := hl
  have hx := C0.1; have hb := C0.2.1; have hown := C0.2.2.2.1; have hts := C0.2.2.2.2.1
  have hFr : zFr (zRg n (n + 4)) g g := zFr.rf
  refine lv_aload_n hx hb dX0_copyFrom_0 rfl (lv_at hl 1 rfl) ?_
  refine z_get C0 hP hD.n0 hD.o fd_X0_9 rfl dX0_copyFrom_1 ?_
  refine lv_iconst (v := 0) hx hb dX0_copyFrom_4 (by decide) ?_
  refine lv_aload_n hx hb dX0_copyFrom_5 rfl (lv_at hl 0 rfl) ?_
  refine z_get C0 hP hC.n0 hC.o fd_X0_9 rfl dX0_copyFrom_6 ?_
  refine lv_iconst (v := 0) hx hb dX0_copyFrom_9 (by decide) ?_
  refine lv_bipush (v := 6) hx hb dX0_copyFrom_10 (by decide) ?_
  refine z_copyC_kn C0 hP hS hl.1 hC hFr (by first | rfl | (dsimp only [zOne, zRg]; omega) | (dsimp only; omega) | omega) hD.n1 hD.a_kn rfl (Nat.le_of_ble_eq_true rfl) q500 (Nat.le_of_ble_eq_true rfl) (Nat.le_of_ble_eq_true rfl) (Nat.le_of_ble_eq_true rfl) dX0_copyFrom_12 (fun g_1 H locs hP hS hC hFr hF1 => ?_)
  have hD := hD.kept hF1 (by first | (dsimp only [zOne, zRg]; omega) | (dsimp only; omega) | omega)
  refine lv_aload_n hx hb dX0_copyFrom_15 rfl (lv_at hl 1 rfl) ?_
  refine z_get C0 hP hD.n0 hD.o fd_X0_15 rfl dX0_copyFrom_16 ?_
  refine lv_iconst (v := 0) hx hb dX0_copyFrom_19 (by decide) ?_
  refine lv_aload_n hx hb dX0_copyFrom_20 rfl (lv_at hl 0 rfl) ?_
  refine z_get C0 hP hC.n0 hC.o fd_X0_15 rfl dX0_copyFrom_21 ?_
  refine lv_iconst (v := 0) hx hb dX0_copyFrom_24 (by decide) ?_
  refine lv_bipush (v := 6) hx hb dX0_copyFrom_25 (by decide) ?_
  refine z_copyC_lo C0 hP hS hl.1 hC hFr (by first | rfl | (dsimp only [zOne, zRg]; omega) | (dsimp only; omega) | omega) hD.n2 hD.a_lo rfl (Nat.le_of_ble_eq_true rfl) q500 (Nat.le_of_ble_eq_true rfl) (Nat.le_of_ble_eq_true rfl) (Nat.le_of_ble_eq_true rfl) dX0_copyFrom_27 (fun g_2 H locs hP hS hC hFr hF1 => ?_)
  have hD := hD.kept hF1 (by first | (dsimp only [zOne, zRg]; omega) | (dsimp only; omega) | omega)
  refine lv_aload_n hx hb dX0_copyFrom_30 rfl (lv_at hl 1 rfl) ?_
  refine z_get C0 hP hD.n0 hD.o fd_X0_18 rfl dX0_copyFrom_31 ?_
  refine lv_iconst (v := 0) hx hb dX0_copyFrom_34 (by decide) ?_
  refine lv_aload_n hx hb dX0_copyFrom_35 rfl (lv_at hl 0 rfl) ?_
  refine z_get C0 hP hC.n0 hC.o fd_X0_18 rfl dX0_copyFrom_36 ?_
  refine lv_iconst (v := 0) hx hb dX0_copyFrom_39 (by decide) ?_
  refine lv_bipush (v := 16) hx hb dX0_copyFrom_40 (by decide) ?_
  refine z_copyC_pa C0 hP hS hl.1 hC hFr (by first | rfl | (dsimp only [zOne, zRg]; omega) | (dsimp only; omega) | omega) hD.n3 hD.a_pa rfl (Nat.le_of_ble_eq_true rfl) q500 (Nat.le_of_ble_eq_true rfl) (Nat.le_of_ble_eq_true rfl) (Nat.le_of_ble_eq_true rfl) dX0_copyFrom_42 (fun g_3 H locs hP hS hC hFr hF1 => ?_)
  have hD := hD.kept hF1 (by first | (dsimp only [zOne, zRg]; omega) | (dsimp only; omega) | omega)
  refine lv_aload_n hx hb dX0_copyFrom_45 rfl (lv_at hl 0 rfl) ?_
  refine lv_aload_n hx hb dX0_copyFrom_46 rfl (lv_at hl 1 rfl) ?_
  refine z_get C0 hP hD.n0 hD.o fd_X0_21 rfl dX0_copyFrom_47 ?_
  refine zp_C_pc C0 hP hS hC hFr (by first | rfl | (dsimp only [zOne, zRg]; omega) | (dsimp only; omega) | omega) fp_X0_21 dX0_copyFrom_50 (fun g_4 H locs hP hS hC hFr hF1 => ?_)
  have hD := hD.kept hF1 (by first | (dsimp only [zOne, zRg]; omega) | (dsimp only; omega) | omega)
  refine lv_aload_n hx hb dX0_copyFrom_53 rfl (lv_at hl 0 rfl) ?_
  refine lv_aload_n hx hb dX0_copyFrom_54 rfl (lv_at hl 1 rfl) ?_
  refine z_get C0 hP hD.n0 hD.o fd_X0_25 rfl dX0_copyFrom_55 ?_
  refine zp_C_hu C0 hP hS hC hFr (by first | rfl | (dsimp only [zOne, zRg]; omega) | (dsimp only; omega) | omega) fp_X0_25 dX0_copyFrom_58 (fun g_5 H locs hP hS hC hFr hF1 => ?_)
  have hD := hD.kept hF1 (by first | (dsimp only [zOne, zRg]; omega) | (dsimp only; omega) | omega)
  refine lv_aload_n hx hb dX0_copyFrom_61 rfl (lv_at hl 0 rfl) ?_
  refine lv_aload_n hx hb dX0_copyFrom_62 rfl (lv_at hl 1 rfl) ?_
  refine z_get C0 hP hD.n0 hD.o fd_X0_28 rfl dX0_copyFrom_63 ?_
  refine zp_C_sl C0 hP hS hC hFr (by first | rfl | (dsimp only [zOne, zRg]; omega) | (dsimp only; omega) | omega) fp_X0_28 dX0_copyFrom_66 (fun g_6 H locs hP hS hC hFr hF1 => ?_)
  have hD := hD.kept hF1 (by first | (dsimp only [zOne, zRg]; omega) | (dsimp only; omega) | omega)
  exact z_vret C0 hP hS hr (⟨hC, hFr⟩) dX0_copyFrom_69
set_option maxHeartbeats 4000000 in
set_option maxRecDepth 100000 in
theorem m_X1_countTied (l : Launch) {D : va_G} {cy : Nat → ClassId} {K : Nat} {ad : Nat → Nat} {g : Nat → va_E} (sz : Nat) {n cz : Nat} {rw : Nat → Option Nat} {ro kt lt sl go re : Int32} {kn lo pa : Nat → Int32} {hu s2 : Int32} {pc kb lb : Int32} (hG : isG cy K ad g n rw ro kt lt sl go re) (hC : isC cy K ad g cz kn lo pa pc hu s2) (hd : n + 2 ≤ cz) : Met l yX1_countTied (zs yX1_countTied cX1_countTied 5 (some .int)) ({ frames := 2, cells := 0, slots := 0, locals := 43 } : Room) (va_Pc [.ref (ad n), .ref (ad cz), .int kb, .int lb] (zIn D cy K ad g sz)) (va_Qi (fun r g1 => r = sumN lo 6 - lb ∧ isG cy K ad g1 n rw ro (kt + (sumN kn 6 - kb)) (lt + (sumN lo 6 - lb)) sl go re ∧ zFr (zOne n) g g1) (zOut D cy K ad sz) (zA K ad sz)) 0 0 (zA K ad sz) := by
  refine z_met (by decide) (Nat.le_of_ble_eq_true rfl) (fun p e s m below meth c ls hsz hl C0 hr hnm hP hS => ?_)
  subst hsz
  have hl : lv_has ls 5 [(0, .ref (ad n)), (1, .ref (ad cz)), (2, .int kb), (3, .int lb)] := hl
  have hx := C0.1; have hb := C0.2.1; have hown := C0.2.2.2.1; have hts := C0.2.2.2.2.1
  have hFr : zFr (zOne n) g g := zFr.rf
  refine lv_aload_n hx hb dX1_countTied_0 rfl (lv_at hl 1 rfl) ?_
  refine z_Vi_eq (As := []) (rest := []) C0 hP hS hl.1 (m_X0_allLoops l _ hC) lk_X1_49 hC.n0 hC.o rfl rfl (Nat.le_of_ble_eq_true rfl) ⟨Nat.le_of_ble_eq_true rfl, Nat.le_of_ble_eq_true rfl⟩ rfl rfl ⟨Nat.zero_le _, Nat.zero_le _⟩ dX1_countTied_1 (fun H locs hP hS => ?_)
  refine lv_iload_n hx hb dX1_countTied_4 rfl (lv_at hl 3 rfl) ?_
  refine lv_isub hx hb dX1_countTied_5 ?_
  refine lv_istore (lv' := [(4, .int ((sumN lo 6) - lb)), (0, .ref (ad n)), (1, .ref (ad cz)), (2, .int kb), (3, .int lb)]) hx hb dX1_countTied_6 hl (by decide) rfl (fun ls hl => ?_)
  refine lv_aload_n hx hb dX1_countTied_8 rfl (lv_at hl 1 rfl) ?_
  refine lv_dup hx hb dX1_countTied_9 rfl ?_
  refine z_get C0 hP hG.n0 hG.o fd_X1_21 rfl dX1_countTied_10 ?_
  refine lv_aload_n hx hb dX1_countTied_13 rfl (lv_at hl 2 rfl) ?_
  refine z_Vi_eq (As := []) (rest := [.int kt, .ref (ad n)]) C0 hP hS hl.1 (m_X0_allKnots l _ hC) lk_X1_45 hC.n0 hC.o rfl rfl (Nat.le_of_ble_eq_true rfl) ⟨Nat.le_of_ble_eq_true rfl, Nat.le_of_ble_eq_true rfl⟩ rfl rfl ⟨Nat.zero_le _, Nat.zero_le _⟩ dX1_countTied_14 (fun H locs hP hS => ?_)
  refine lv_iload_n hx hb dX1_countTied_17 rfl (lv_at hl 3 rfl) ?_
  refine lv_isub hx hb dX1_countTied_18 ?_
  refine lv_iadd hx hb dX1_countTied_19 ?_
  refine zp_G_kt C0 hP hS hG hFr (by first | rfl | (dsimp only [zOne, zRg]; omega) | (dsimp only; omega) | omega) fp_X1_21 dX1_countTied_20 (fun g_1 H locs hP hS hG hFr hF1 => ?_)
  have hC := hC.kept hF1 (by first | (dsimp only [zOne, zRg]; omega) | (dsimp only; omega) | omega)
  refine lv_aload_n hx hb dX1_countTied_23 rfl (lv_at hl 1 rfl) ?_
  refine lv_dup hx hb dX1_countTied_24 rfl ?_
  refine z_get C0 hP hG.n0 hG.o fd_X1_24 rfl dX1_countTied_25 ?_
  refine lv_iload hx hb dX1_countTied_28 (lv_at hl 0 rfl) ?_
  refine lv_iadd hx hb dX1_countTied_30 ?_
  refine zp_G_lt C0 hP hS hG hFr (by first | rfl | (dsimp only [zOne, zRg]; omega) | (dsimp only; omega) | omega) fp_X1_24 dX1_countTied_31 (fun g_2 H locs hP hS hG hFr hF1 => ?_)
  have hC := hC.kept hF1 (by first | (dsimp only [zOne, zRg]; omega) | (dsimp only; omega) | omega)
  refine lv_iload hx hb dX1_countTied_34 (lv_at hl 0 rfl) ?_
  exact z_iret C0 hP hS hr (⟨rfl, hG, hFr⟩) dX1_countTied_36
set_option maxHeartbeats 4000000 in
set_option maxRecDepth 100000 in
theorem m_X1_tiePart (l : Launch) {D : va_G} {cy : Nat → ClassId} {K : Nat} {ad : Nat → Nat} {g : Nat → va_E} (sz : Nat) {n cz : Nat} {rw : Nat → Option Nat} {ro kt lt sl go re : Int32} {kn lo pa : Nat → Int32} {hu s2 : Int32} {mm : Nat} {num : Int32} (hG : isG cy K ad g n rw ro kt lt sl go re) (hC : isC cy K ad g cz kn lo pa (nI mm) hu s2) (hd : n + 2 ≤ cz) (hm : mm ≤ 16) : Met l yX1_tiePart (zs yX1_tiePart cX1_tiePart 6 (some .int)) ({ frames := 4, cells := 0, slots := 0, locals := 93 } : Room) (va_Pc [.ref (ad n), .ref (ad cz), .int num] (zIn D cy K ad g sz)) (va_Qi (fun r g1 => (¬ rop kn lo mm num ro = 0 ∧ r = rop kn lo mm num ro ∧ isG cy K ad g1 n rw ro kt lt sl go (re + 1) ∧ isC cy K ad g1 cz kn lo pa (nI mm) hu s2 ∧ zFr (fun z9 => z9 = n ∨ (cz ≤ z9 ∧ z9 < cz + 4)) g g1) ∨ (rop kn lo mm num ro = 0 ∧ r = 10 + (sumN (tL kn lo num 6) 6 - sumN lo 6) ∧ isG cy K ad g1 n rw ro (kt + (sumN (tK kn lo num 6) 6 - sumN kn 6)) (lt + (sumN (tL kn lo num 6) 6 - sumN lo 6)) sl go re ∧ isC cy K ad g1 cz (tK kn lo num 6) (tL kn lo num 6) (upd pa mm num) (nI (mm + 1)) hu s2 ∧ zFr (fun z9 => z9 = n ∨ (cz ≤ z9 ∧ z9 < cz + 4)) g g1)) (zOut D cy K ad sz) (zA K ad sz)) 0 0 (zA K ad sz) := by
  refine z_met (by decide) (Nat.le_of_ble_eq_true rfl) (fun p e s m below meth c ls hsz hl C0 hr hnm hP hS => ?_)
  subst hsz
  have hl : lv_has ls 6 [(0, .ref (ad n)), (1, .ref (ad cz)), (2, .int num)] := hl
  have hx := C0.1; have hb := C0.2.1; have hown := C0.2.2.2.1; have hts := C0.2.2.2.2.1
  have hFr : zFr (fun z9 => z9 = n ∨ (cz ≤ z9 ∧ z9 < cz + 4)) g g := zFr.rf
  refine lv_aload_n hx hb dX1_tiePart_0 rfl (lv_at hl 1 rfl) ?_
  refine lv_iload_n hx hb dX1_tiePart_1 rfl (lv_at hl 2 rfl) ?_
  refine lv_aload_n hx hb dX1_tiePart_2 rfl (lv_at hl 0 rfl) ?_
  refine z_get C0 hP hG.n0 hG.o fd_X1_17 rfl dX1_tiePart_3 ?_
  refine z_Vi_eq (As := [.int num, .int ro]) (rest := []) C0 hP hS hl.1 (m_X0_refusalOfPart l _ hC hm) lk_X1_41 hC.n0 hC.o rfl rfl (Nat.le_of_ble_eq_true rfl) ⟨Nat.le_of_ble_eq_true rfl, Nat.le_of_ble_eq_true rfl⟩ rfl rfl ⟨Nat.zero_le _, Nat.zero_le _⟩ dX1_tiePart_6 (fun H locs hP hS => ?_)
  refine lv_istore_n (lv' := [(3, .int (rop kn lo mm num ro)), (0, .ref (ad n)), (1, .ref (ad cz)), (2, .int num)]) hx hb dX1_tiePart_9 rfl hl (by decide) rfl (fun ls hl => ?_)
  refine lv_iload_n hx hb dX1_tiePart_10 rfl (lv_at hl 0 rfl) ?_
  refine lv_if_eq (tgt := 26) hx hb dX1_tiePart_11 (by decide) (fun c_11 => ?_) (fun c_11 => ?_)
  · refine lv_aload_n hx hb dX1_tiePart_26 rfl (lv_at hl 2 rfl) ?_
    refine z_Vi_eq (As := []) (rest := []) C0 hP hS hl.1 (m_X0_allKnots l _ hC) lk_X1_45 hC.n0 hC.o rfl rfl (Nat.le_of_ble_eq_true rfl) ⟨Nat.le_of_ble_eq_true rfl, Nat.le_of_ble_eq_true rfl⟩ rfl rfl ⟨Nat.zero_le _, Nat.zero_le _⟩ dX1_tiePart_27 (fun H locs hP hS => ?_)
    refine lv_istore (lv' := [(4, .int (sumN kn 6)), (3, .int (rop kn lo mm num ro)), (0, .ref (ad n)), (1, .ref (ad cz)), (2, .int num)]) hx hb dX1_tiePart_30 hl (by decide) rfl (fun ls hl => ?_)
    refine lv_aload_n hx hb dX1_tiePart_32 rfl (lv_at hl 3 rfl) ?_
    refine z_Vi_eq (As := []) (rest := []) C0 hP hS hl.1 (m_X0_allLoops l _ hC) lk_X1_49 hC.n0 hC.o rfl rfl (Nat.le_of_ble_eq_true rfl) ⟨Nat.le_of_ble_eq_true rfl, Nat.le_of_ble_eq_true rfl⟩ rfl rfl ⟨Nat.zero_le _, Nat.zero_le _⟩ dX1_tiePart_33 (fun H locs hP hS => ?_)
    refine lv_istore (lv' := [(5, .int (sumN lo 6)), (4, .int (sumN kn 6)), (3, .int (rop kn lo mm num ro)), (0, .ref (ad n)), (1, .ref (ad cz)), (2, .int num)]) hx hb dX1_tiePart_36 hl (by decide) rfl (fun ls hl => ?_)
    refine lv_aload_n hx hb dX1_tiePart_38 rfl (lv_at hl 4 rfl) ?_
    refine lv_iload_n hx hb dX1_tiePart_39 rfl (lv_at hl 5 rfl) ?_
    refine z_Vv_mo (As := [.int num]) (rest := []) C0 hP hS hl.1 (m_X0_tieAsPart l _ hC (rop_lt c_11)) lk_X1_52 hC.n0 hC.o rfl rfl (Nat.le_of_ble_eq_true rfl) ⟨Nat.le_of_ble_eq_true rfl, Nat.le_of_ble_eq_true rfl⟩ rfl rfl ⟨Nat.zero_le _, Nat.zero_le _⟩ dX1_tiePart_40 (fun g_1 H locs hP hS hp => ?_)
    obtain ⟨hC, hF1⟩ := hp
    have hG := hG.kept hF1 (by first | (dsimp only [zOne, zRg]; omega) | (dsimp only; omega) | omega)
    have hFr := hFr.tr (hF1.mono (by intro x9 hx9; first | (dsimp only [zOne, zRg] at hx9 ⊢; omega) | (dsimp only at hx9 ⊢; omega) | omega))
    refine lv_bipush (v := 10) hx hb dX1_tiePart_43 (by decide) ?_
    refine lv_aload_n hx hb dX1_tiePart_45 rfl (lv_at hl 3 rfl) ?_
    refine lv_aload_n hx hb dX1_tiePart_46 rfl (lv_at hl 4 rfl) ?_
    refine lv_iload hx hb dX1_tiePart_47 (lv_at hl 1 rfl) ?_
    refine lv_iload hx hb dX1_tiePart_49 (lv_at hl 0 rfl) ?_
    refine z_Vi_mo (As := [.ref (ad cz), .int (sumN kn 6), .int (sumN lo 6)]) (rest := [.int 10]) C0 hP hS hl.1 (m_X1_countTied l _ hG hC hd) lk_X1_56 hG.n0 hG.o rfl rfl (Nat.le_of_ble_eq_true rfl) ⟨Nat.le_of_ble_eq_true rfl, Nat.le_of_ble_eq_true rfl⟩ rfl rfl ⟨Nat.zero_le _, Nat.zero_le _⟩ dX1_tiePart_51 (fun r_51 g_2 H locs hP hS hp => ?_)
    obtain ⟨hr_51, hG, hF1⟩ := hp
    subst hr_51
    have hC := hC.kept hF1 (by first | (dsimp only [zOne, zRg]; omega) | (dsimp only; omega) | omega)
    have hFr := hFr.tr (hF1.mono (by intro x9 hx9; first | (dsimp only [zOne, zRg] at hx9 ⊢; omega) | (dsimp only at hx9 ⊢; omega) | omega))
    refine lv_iadd hx hb dX1_tiePart_54 ?_
    exact z_iret C0 hP hS hr (Or.inr ⟨c_11, rfl, hG, hC, hFr⟩) dX1_tiePart_55
  · refine lv_aload_n hx hb dX1_tiePart_14 rfl (lv_at hl 1 rfl) ?_
    refine lv_dup hx hb dX1_tiePart_15 rfl ?_
    refine z_get C0 hP hG.n0 hG.o fd_X1_33 rfl dX1_tiePart_16 ?_
    refine lv_iconst (v := 1) hx hb dX1_tiePart_19 (by decide) ?_
    refine lv_iadd hx hb dX1_tiePart_20 ?_
    refine zp_G_re C0 hP hS hG hFr (by first | rfl | (dsimp only [zOne, zRg]; omega) | (dsimp only; omega) | omega) fp_X1_33 dX1_tiePart_21 (fun g_3 H locs hP hS hG hFr hF1 => ?_)
    have hC := hC.kept hF1 (by first | (dsimp only [zOne, zRg]; omega) | (dsimp only; omega) | omega)
    refine lv_iload_n hx hb dX1_tiePart_24 rfl (lv_at hl 0 rfl) ?_
    exact z_iret C0 hP hS hr (Or.inl ⟨c_11, rfl, hG, hC, hFr⟩) dX1_tiePart_25
set_option maxHeartbeats 4000000 in
set_option maxRecDepth 100000 in
theorem m_X1_tieLack (l : Launch) {D : va_G} {cy : Nat → ClassId} {K : Nat} {ad : Nat → Nat} {g : Nat → va_E} (sz : Nat) {n cz : Nat} {rw : Nat → Option Nat} {ro kt lt sl go re : Int32} {kn lo pa : Nat → Int32} {hu s2 : Int32} {mm : Nat} (hG : isG cy K ad g n rw ro kt lt sl go re) (hC : isC cy K ad g cz kn lo pa (nI mm) hu s2) (hd : n + 2 ≤ cz) (hm : mm ≤ 16) : Met l yX1_tieLack (zs yX1_tieLack cX1_tieLack 6 (some .int)) ({ frames := 3, cells := 0, slots := 0, locals := 71 } : Room) (va_Pc [.ref (ad n), .ref (ad cz)] (zIn D cy K ad g sz)) (va_Qi (fun r g1 => (sumN pa mm - tld kn lo 6 = 0 ∧ r = 0 ∧ g1 = g) ∨ (¬ sumN pa mm - tld kn lo 6 = 0 ∧ ¬ refuse kn lo (sumN pa mm - tld kn lo 6) ro = 0 ∧ r = - refuse kn lo (sumN pa mm - tld kn lo 6) ro ∧ isG cy K ad g1 n rw ro kt lt sl go (re + 1) ∧ isC cy K ad g1 cz kn lo pa (nI mm) hu s2 ∧ zFr (fun z9 => z9 = n ∨ (cz ≤ z9 ∧ z9 < cz + 4)) g g1) ∨ (¬ sumN pa mm - tld kn lo 6 = 0 ∧ refuse kn lo (sumN pa mm - tld kn lo 6) ro = 0 ∧ r = sumN pa mm - tld kn lo 6 ∧ isG cy K ad g1 n rw ro (kt + (sumN (tK kn lo (sumN pa mm - tld kn lo 6) 6) 6 - sumN kn 6)) (lt + (sumN (tL kn lo (sumN pa mm - tld kn lo 6) 6) 6 - sumN lo 6)) sl go re ∧ isC cy K ad g1 cz (tK kn lo (sumN pa mm - tld kn lo 6) 6) (tL kn lo (sumN pa mm - tld kn lo 6) 6) pa (nI mm) hu s2 ∧ zFr (fun z9 => z9 = n ∨ (cz ≤ z9 ∧ z9 < cz + 4)) g g1)) (zOut D cy K ad sz) (zA K ad sz)) 0 0 (zA K ad sz) := by
  refine z_met (by decide) (Nat.le_of_ble_eq_true rfl) (fun p e s m below meth c ls hsz hl C0 hr hnm hP hS => ?_)
  subst hsz
  have hl : lv_has ls 6 [(0, .ref (ad n)), (1, .ref (ad cz))] := hl
  have hx := C0.1; have hb := C0.2.1; have hown := C0.2.2.2.1; have hts := C0.2.2.2.2.1
  have hFr : zFr (fun z9 => z9 = n ∨ (cz ≤ z9 ∧ z9 < cz + 4)) g g := zFr.rf
  refine lv_aload_n hx hb dX1_tieLack_0 rfl (lv_at hl 1 rfl) ?_
  refine z_Vi_eq (As := []) (rest := []) C0 hP hS hl.1 (m_X0_lack l _ hC hm) lk_X1_67 hC.n0 hC.o rfl rfl (Nat.le_of_ble_eq_true rfl) ⟨Nat.le_of_ble_eq_true rfl, Nat.le_of_ble_eq_true rfl⟩ rfl rfl ⟨Nat.zero_le _, Nat.zero_le _⟩ dX1_tieLack_1 (fun H locs hP hS => ?_)
  refine lv_istore_n (lv' := [(2, .int (sumN pa mm - tld kn lo 6)), (0, .ref (ad n)), (1, .ref (ad cz))]) hx hb dX1_tieLack_4 rfl hl (by decide) rfl (fun ls hl => ?_)
  refine lv_iload_n hx hb dX1_tieLack_5 rfl (lv_at hl 0 rfl) ?_
  refine lv_if_ne (tgt := 11) hx hb dX1_tieLack_6 (by decide) (fun c_6 => ?_) (fun c_6 => ?_)
  · refine lv_aload_n hx hb dX1_tieLack_11 rfl (lv_at hl 2 rfl) ?_
    refine lv_iload_n hx hb dX1_tieLack_12 rfl (lv_at hl 0 rfl) ?_
    refine lv_aload_n hx hb dX1_tieLack_13 rfl (lv_at hl 1 rfl) ?_
    refine z_get C0 hP hG.n0 hG.o fd_X1_17 rfl dX1_tieLack_14 ?_
    refine z_Vi_eq (As := [.int (sumN pa mm - tld kn lo 6), .int ro]) (rest := []) C0 hP hS hl.1 (m_X0_refusal l _ hC) lk_X1_70 hC.n0 hC.o rfl rfl (Nat.le_of_ble_eq_true rfl) ⟨Nat.le_of_ble_eq_true rfl, Nat.le_of_ble_eq_true rfl⟩ rfl rfl ⟨Nat.zero_le _, Nat.zero_le _⟩ dX1_tieLack_17 (fun H locs hP hS => ?_)
    refine lv_istore_n (lv' := [(3, .int (refuse kn lo (sumN pa mm - tld kn lo 6) ro)), (2, .int (sumN pa mm - tld kn lo 6)), (0, .ref (ad n)), (1, .ref (ad cz))]) hx hb dX1_tieLack_20 rfl hl (by decide) rfl (fun ls hl => ?_)
    refine lv_iload_n hx hb dX1_tieLack_21 rfl (lv_at hl 0 rfl) ?_
    refine lv_if_eq (tgt := 38) hx hb dX1_tieLack_22 (by decide) (fun c_22 => ?_) (fun c_22 => ?_)
    · refine lv_aload_n hx hb dX1_tieLack_38 rfl (lv_at hl 3 rfl) ?_
      refine z_Vi_eq (As := []) (rest := []) C0 hP hS hl.1 (m_X0_allKnots l _ hC) lk_X1_45 hC.n0 hC.o rfl rfl (Nat.le_of_ble_eq_true rfl) ⟨Nat.le_of_ble_eq_true rfl, Nat.le_of_ble_eq_true rfl⟩ rfl rfl ⟨Nat.zero_le _, Nat.zero_le _⟩ dX1_tieLack_39 (fun H locs hP hS => ?_)
      refine lv_istore (lv' := [(4, .int (sumN kn 6)), (3, .int (refuse kn lo (sumN pa mm - tld kn lo 6) ro)), (2, .int (sumN pa mm - tld kn lo 6)), (0, .ref (ad n)), (1, .ref (ad cz))]) hx hb dX1_tieLack_42 hl (by decide) rfl (fun ls hl => ?_)
      refine lv_aload_n hx hb dX1_tieLack_44 rfl (lv_at hl 4 rfl) ?_
      refine z_Vi_eq (As := []) (rest := []) C0 hP hS hl.1 (m_X0_allLoops l _ hC) lk_X1_49 hC.n0 hC.o rfl rfl (Nat.le_of_ble_eq_true rfl) ⟨Nat.le_of_ble_eq_true rfl, Nat.le_of_ble_eq_true rfl⟩ rfl rfl ⟨Nat.zero_le _, Nat.zero_le _⟩ dX1_tieLack_45 (fun H locs hP hS => ?_)
      refine lv_istore (lv' := [(5, .int (sumN lo 6)), (4, .int (sumN kn 6)), (3, .int (refuse kn lo (sumN pa mm - tld kn lo 6) ro)), (2, .int (sumN pa mm - tld kn lo 6)), (0, .ref (ad n)), (1, .ref (ad cz))]) hx hb dX1_tieLack_48 hl (by decide) rfl (fun ls hl => ?_)
      refine lv_aload_n hx hb dX1_tieLack_50 rfl (lv_at hl 5 rfl) ?_
      refine lv_iload_n hx hb dX1_tieLack_51 rfl (lv_at hl 3 rfl) ?_
      refine z_Vv_mo (As := [.int (sumN pa mm - tld kn lo 6)]) (rest := []) C0 hP hS hl.1 (m_X0_tieKnots l _ hC) lk_X1_73 hC.n0 hC.o rfl rfl (Nat.le_of_ble_eq_true rfl) ⟨Nat.le_of_ble_eq_true rfl, Nat.le_of_ble_eq_true rfl⟩ rfl rfl ⟨Nat.zero_le _, Nat.zero_le _⟩ dX1_tieLack_52 (fun g_1 H locs hP hS hp => ?_)
      obtain ⟨hC, hF1⟩ := hp
      have hG := hG.kept hF1 (by first | (dsimp only [zOne, zRg]; omega) | (dsimp only; omega) | omega)
      have hFr := hFr.tr (hF1.mono (by intro x9 hx9; first | (dsimp only [zOne, zRg] at hx9 ⊢; omega) | (dsimp only at hx9 ⊢; omega) | omega))
      refine lv_aload_n hx hb dX1_tieLack_55 rfl (lv_at hl 4 rfl) ?_
      refine lv_aload_n hx hb dX1_tieLack_56 rfl (lv_at hl 5 rfl) ?_
      refine lv_iload hx hb dX1_tieLack_57 (lv_at hl 1 rfl) ?_
      refine lv_iload hx hb dX1_tieLack_59 (lv_at hl 0 rfl) ?_
      refine z_Vi_mo (As := [.ref (ad cz), .int (sumN kn 6), .int (sumN lo 6)]) (rest := []) C0 hP hS hl.1 (m_X1_countTied l _ hG hC hd) lk_X1_56 hG.n0 hG.o rfl rfl (Nat.le_of_ble_eq_true rfl) ⟨Nat.le_of_ble_eq_true rfl, Nat.le_of_ble_eq_true rfl⟩ rfl rfl ⟨Nat.zero_le _, Nat.zero_le _⟩ dX1_tieLack_61 (fun r_61 g_2 H locs hP hS hp => ?_)
      obtain ⟨hr_61, hG, hF1⟩ := hp
      subst hr_61
      have hC := hC.kept hF1 (by first | (dsimp only [zOne, zRg]; omega) | (dsimp only; omega) | omega)
      have hFr := hFr.tr (hF1.mono (by intro x9 hx9; first | (dsimp only [zOne, zRg] at hx9 ⊢; omega) | (dsimp only at hx9 ⊢; omega) | omega))
      refine lv_pop hx hb dX1_tieLack_64 rfl ?_
      refine lv_iload_n hx hb dX1_tieLack_65 rfl (lv_at hl 3 rfl) ?_
      exact z_iret C0 hP hS hr (Or.inr (Or.inr ⟨c_6, c_22, rfl, hG, hC, hFr⟩)) dX1_tieLack_66
    · refine lv_aload_n hx hb dX1_tieLack_25 rfl (lv_at hl 2 rfl) ?_
      refine lv_dup hx hb dX1_tieLack_26 rfl ?_
      refine z_get C0 hP hG.n0 hG.o fd_X1_33 rfl dX1_tieLack_27 ?_
      refine lv_iconst (v := 1) hx hb dX1_tieLack_30 (by decide) ?_
      refine lv_iadd hx hb dX1_tieLack_31 ?_
      refine zp_G_re C0 hP hS hG hFr (by first | rfl | (dsimp only [zOne, zRg]; omega) | (dsimp only; omega) | omega) fp_X1_33 dX1_tieLack_32 (fun g_3 H locs hP hS hG hFr hF1 => ?_)
      have hC := hC.kept hF1 (by first | (dsimp only [zOne, zRg]; omega) | (dsimp only; omega) | omega)
      refine lv_iload_n hx hb dX1_tieLack_35 rfl (lv_at hl 0 rfl) ?_
      refine lv_ineg hx hb dX1_tieLack_36 ?_
      exact z_iret C0 hP hS hr (Or.inr (Or.inl ⟨c_6, c_22, rfl, hG, hC, hFr⟩)) dX1_tieLack_37
  · refine lv_iconst (v := 0) hx hb dX1_tieLack_9 (by decide) ?_
    exact z_iret C0 hP hS hr (Or.inl ⟨c_6, rfl, rfl⟩) dX1_tieLack_10
set_option maxHeartbeats 4000000 in
set_option maxRecDepth 100000 in
theorem m_X1_loosen (l : Launch) {D : va_G} {cy : Nat → ClassId} {K : Nat} {ad : Nat → Nat} {g : Nat → va_E} (sz : Nat) {n cz : Nat} {rw : Nat → Option Nat} {ro kt lt sl go re : Int32} {kn lo pa : Nat → Int32} {hu s2 : Int32} {pc : Int32} {jz : Nat} (hG : isG cy K ad g n rw ro kt lt sl go re) (hC : isC cy K ad g cz kn lo pa pc hu s2) (hd : n + 2 ≤ cz) (hj : jz < 6) : Met l yX1_loosen (zs yX1_loosen cX1_loosen 3 (some .int)) ({ frames := 1, cells := 0, slots := 0, locals := 21 } : Room) (va_Pc [.ref (ad n), .ref (ad cz), .int (nI jz)] (zIn D cy K ad g sz)) (va_Qi (fun r g1 => (opn kn lo jz = 0 ∧ r = -1 ∧ isG cy K ad g1 n rw ro kt lt sl go (re + 1) ∧ isC cy K ad g1 cz kn lo pa pc hu s2 ∧ zFr (fun z9 => z9 = n ∨ (cz ≤ z9 ∧ z9 < cz + 4)) g g1) ∨ (¬ opn kn lo jz = 0 ∧ r = opn (upd kn jz (kn jz - 1)) lo jz ∧ isG cy K ad g1 n rw ro kt lt (sl + 1) go re ∧ isC cy K ad g1 cz (upd kn jz (kn jz - 1)) lo pa pc hu (s2 + 1) ∧ zFr (fun z9 => z9 = n ∨ (cz ≤ z9 ∧ z9 < cz + 4)) g g1)) (zOut D cy K ad sz) (zA K ad sz)) 0 0 (zA K ad sz) := by
  refine z_met (by decide) (Nat.le_of_ble_eq_true rfl) (fun p e s m below meth c ls hsz hl C0 hr hnm hP hS => ?_)
  subst hsz
  have hl : lv_has ls 3 [(0, .ref (ad n)), (1, .ref (ad cz)), (2, .int (nI jz))] := hl
  have hx := C0.1; have hb := C0.2.1; have hown := C0.2.2.2.1; have hts := C0.2.2.2.2.1
  have hFr : zFr (fun z9 => z9 = n ∨ (cz ≤ z9 ∧ z9 < cz + 4)) g g := zFr.rf
  refine lv_aload_n hx hb dX1_loosen_0 rfl (lv_at hl 1 rfl) ?_
  refine lv_iload_n hx hb dX1_loosen_1 rfl (lv_at hl 2 rfl) ?_
  refine z_Vi_eq (As := [.int (nI jz)]) (rest := []) C0 hP hS hl.1 (m_X0_open l _ hC hj) lk_X1_76 hC.n0 hC.o rfl rfl (Nat.le_of_ble_eq_true rfl) ⟨Nat.le_of_ble_eq_true rfl, Nat.le_of_ble_eq_true rfl⟩ rfl rfl ⟨Nat.zero_le _, Nat.zero_le _⟩ dX1_loosen_2 (fun H locs hP hS => ?_)
  refine lv_if_ne (tgt := 20) hx hb dX1_loosen_5 (by decide) (fun c_5 => ?_) (fun c_5 => ?_)
  · refine lv_aload_n hx hb dX1_loosen_20 rfl (lv_at hl 1 rfl) ?_
    refine z_get C0 hP hC.n0 hC.o fd_X1_80 rfl dX1_loosen_21 ?_
    refine lv_iload_n hx hb dX1_loosen_24 rfl (lv_at hl 2 rfl) ?_
    refine lv_dup2_11 hx hb dX1_loosen_25 rfl rfl ?_
    refine z_iald C0 hP hC.n1 hC.a_kn (zIx_nI (by omega) (by decide)) dX1_loosen_26 ?_
    refine lv_iconst (v := 1) hx hb dX1_loosen_27 (by decide) ?_
    refine lv_isub hx hb dX1_loosen_28 ?_
    refine zp_C_kn C0 hP hS hC hFr (by first | rfl | (dsimp only [zOne, zRg]; omega) | (dsimp only; omega) | omega) (zIx_nI (by omega) (by decide)) dX1_loosen_29 (fun g_1 H locs hP hS hC hFr hF1 => ?_)
    have hG := hG.kept hF1 (by first | (dsimp only [zOne, zRg]; omega) | (dsimp only; omega) | omega)
    refine lv_aload_n hx hb dX1_loosen_30 rfl (lv_at hl 1 rfl) ?_
    refine lv_dup hx hb dX1_loosen_31 rfl ?_
    refine z_get C0 hP hC.n0 hC.o fd_X1_84 rfl dX1_loosen_32 ?_
    refine lv_iconst (v := 1) hx hb dX1_loosen_35 (by decide) ?_
    refine lv_iadd hx hb dX1_loosen_36 ?_
    refine zp_C_sl C0 hP hS hC hFr (by first | rfl | (dsimp only [zOne, zRg]; omega) | (dsimp only; omega) | omega) fp_X1_84 dX1_loosen_37 (fun g_2 H locs hP hS hC hFr hF1 => ?_)
    have hG := hG.kept hF1 (by first | (dsimp only [zOne, zRg]; omega) | (dsimp only; omega) | omega)
    refine lv_aload_n hx hb dX1_loosen_40 rfl (lv_at hl 0 rfl) ?_
    refine lv_dup hx hb dX1_loosen_41 rfl ?_
    refine z_get C0 hP hG.n0 hG.o fd_X1_27 rfl dX1_loosen_42 ?_
    refine lv_iconst (v := 1) hx hb dX1_loosen_45 (by decide) ?_
    refine lv_iadd hx hb dX1_loosen_46 ?_
    refine zp_G_sl C0 hP hS hG hFr (by first | rfl | (dsimp only [zOne, zRg]; omega) | (dsimp only; omega) | omega) fp_X1_27 dX1_loosen_47 (fun g_3 H locs hP hS hG hFr hF1 => ?_)
    have hC := hC.kept hF1 (by first | (dsimp only [zOne, zRg]; omega) | (dsimp only; omega) | omega)
    refine lv_aload_n hx hb dX1_loosen_50 rfl (lv_at hl 1 rfl) ?_
    refine lv_iload_n hx hb dX1_loosen_51 rfl (lv_at hl 2 rfl) ?_
    refine z_Vi_eq (As := [.int (nI jz)]) (rest := []) C0 hP hS hl.1 (m_X0_open l _ hC hj) lk_X1_76 hC.n0 hC.o rfl rfl (Nat.le_of_ble_eq_true rfl) ⟨Nat.le_of_ble_eq_true rfl, Nat.le_of_ble_eq_true rfl⟩ rfl rfl ⟨Nat.zero_le _, Nat.zero_le _⟩ dX1_loosen_52 (fun H locs hP hS => ?_)
    exact z_iret C0 hP hS hr (Or.inr ⟨c_5, rfl, hG, hC, hFr⟩) dX1_loosen_55
  · refine lv_aload_n hx hb dX1_loosen_8 rfl (lv_at hl 0 rfl) ?_
    refine lv_dup hx hb dX1_loosen_9 rfl ?_
    refine z_get C0 hP hG.n0 hG.o fd_X1_33 rfl dX1_loosen_10 ?_
    refine lv_iconst (v := 1) hx hb dX1_loosen_13 (by decide) ?_
    refine lv_iadd hx hb dX1_loosen_14 ?_
    refine zp_G_re C0 hP hS hG hFr (by first | rfl | (dsimp only [zOne, zRg]; omega) | (dsimp only; omega) | omega) fp_X1_33 dX1_loosen_15 (fun g_4 H locs hP hS hG hFr hF1 => ?_)
    have hC := hC.kept hF1 (by first | (dsimp only [zOne, zRg]; omega) | (dsimp only; omega) | omega)
    refine lv_iconst (v := (-1)) hx hb dX1_loosen_18 (by decide) ?_
    exact z_iret C0 hP hS hr (Or.inl ⟨c_5, rfl, hG, hC, hFr⟩) dX1_loosen_19
set_option maxHeartbeats 4000000 in
set_option maxRecDepth 100000 in
theorem m_X1_replace (l : Launch) {D : va_G} {cy : Nat → ClassId} {K : Nat} {ad : Nat → Nat} {g : Nat → va_E} (sz : Nat) {n cz : Nat} {rw : Nat → Option Nat} {ro kt lt sl go re : Int32} {kn lo pa : Nat → Int32} {hu s2 : Int32} {pc : Int32} (hG : isG cy K ad g n rw ro kt lt sl go re) (hC : isC cy K ad g cz kn lo pa pc hu s2) (hd : n + 2 ≤ cz) : Met l yX1_replace (zs yX1_replace cX1_replace 3 (some .int)) ({ frames := 3, cells := 0, slots := 0, locals := 63 } : Room) (va_Pc [.ref (ad n), .ref (ad cz)] (zIn D cy K ad g sz)) (va_Qi (fun r g1 => r = tld kn lo 6 ∧ isG cy K ad g1 n rw ro kt lt sl (go + (sumN kn 6 + sumN lo 6)) re ∧ isC cy K ad g1 cz (zK kn 6) (zK lo 6) pa (nI 0) hu 0 ∧ zFr (fun z9 => z9 = n ∨ (cz ≤ z9 ∧ z9 < cz + 4)) g g1) (zOut D cy K ad sz) (zA K ad sz)) 0 0 (zA K ad sz) := by
  refine z_met (by decide) (Nat.le_of_ble_eq_true rfl) (fun p e s m below meth c ls hsz hl C0 hr hnm hP hS => ?_)
  subst hsz
  have hl : lv_has ls 3 [(0, .ref (ad n)), (1, .ref (ad cz))] := hl
  have hx := C0.1; have hb := C0.2.1; have hown := C0.2.2.2.1; have hts := C0.2.2.2.2.1
  have hFr : zFr (fun z9 => z9 = n ∨ (cz ≤ z9 ∧ z9 < cz + 4)) g g := zFr.rf
  refine lv_aload_n hx hb dX1_replace_0 rfl (lv_at hl 1 rfl) ?_
  refine z_Vi_eq (As := []) (rest := []) C0 hP hS hl.1 (m_X0_told l _ hC) lk_X1_60 hC.n0 hC.o rfl rfl (Nat.le_of_ble_eq_true rfl) ⟨Nat.le_of_ble_eq_true rfl, Nat.le_of_ble_eq_true rfl⟩ rfl rfl ⟨Nat.zero_le _, Nat.zero_le _⟩ dX1_replace_1 (fun H locs hP hS => ?_)
  refine lv_istore_n (lv' := [(2, .int (tld kn lo 6)), (0, .ref (ad n)), (1, .ref (ad cz))]) hx hb dX1_replace_4 rfl hl (by decide) rfl (fun ls hl => ?_)
  refine lv_aload_n hx hb dX1_replace_5 rfl (lv_at hl 1 rfl) ?_
  refine lv_dup hx hb dX1_replace_6 rfl ?_
  refine z_get C0 hP hG.n0 hG.o fd_X1_30 rfl dX1_replace_7 ?_
  refine lv_aload_n hx hb dX1_replace_10 rfl (lv_at hl 2 rfl) ?_
  refine z_Vi_eq (As := []) (rest := [.int go, .ref (ad n)]) C0 hP hS hl.1 (m_X0_ties l _ hC) lk_X1_85 hC.n0 hC.o rfl rfl (Nat.le_of_ble_eq_true rfl) ⟨Nat.le_of_ble_eq_true rfl, Nat.le_of_ble_eq_true rfl⟩ rfl rfl ⟨Nat.zero_le _, Nat.zero_le _⟩ dX1_replace_11 (fun H locs hP hS => ?_)
  refine lv_iadd hx hb dX1_replace_14 ?_
  refine zp_G_go C0 hP hS hG hFr (by first | rfl | (dsimp only [zOne, zRg]; omega) | (dsimp only; omega) | omega) fp_X1_30 dX1_replace_15 (fun g_1 H locs hP hS hG hFr hF1 => ?_)
  have hC := hC.kept hF1 (by first | (dsimp only [zOne, zRg]; omega) | (dsimp only; omega) | omega)
  refine lv_aload_n hx hb dX1_replace_18 rfl (lv_at hl 2 rfl) ?_
  refine z_Vv_mo (As := []) (rest := []) C0 hP hS hl.1 (m_X0_becomeNew l _ hC) lk_X1_88 hC.n0 hC.o rfl rfl (Nat.le_of_ble_eq_true rfl) ⟨Nat.le_of_ble_eq_true rfl, Nat.le_of_ble_eq_true rfl⟩ rfl rfl ⟨Nat.zero_le _, Nat.zero_le _⟩ dX1_replace_19 (fun g_2 H locs hP hS hp => ?_)
  obtain ⟨hC, hF1⟩ := hp
  have hG := hG.kept hF1 (by first | (dsimp only [zOne, zRg]; omega) | (dsimp only; omega) | omega)
  have hFr := hFr.tr (hF1.mono (by intro x9 hx9; first | (dsimp only [zOne, zRg] at hx9 ⊢; omega) | (dsimp only at hx9 ⊢; omega) | omega))
  refine lv_iload_n hx hb dX1_replace_22 rfl (lv_at hl 0 rfl) ?_
  exact z_iret C0 hP hS hr (⟨rfl, hG, hC, hFr⟩) dX1_replace_23
end
section
/-! ===== the herd's methods that change one cord, said of the one row of numbers ===== -/
section ZF
variable {st : Nat → Int32} {i : Nat} {num : Int32}
theorem knitF_c {x : Nat} (h : x < 6) (h0 : x ≠ 0) (h1 : x ≠ 1) : knitF st i num x = st x := by
  unfold knitF
  rw [if_neg h0, if_neg h1, if_neg (by omega), if_neg (by omega)]
theorem knitF_h {j : Nat} (h : j < 19) : knitF st i num (6 + 31 * i + j) = st (6 + 31 * i + j) := by
  unfold knitF
  rw [if_neg (by omega), if_neg (by omega), if_neg (by omega), if_neg (by omega)]
theorem knitF_K {p : Nat} (h : p < 6) : knitF st i num (6 + 31 * i + (19 + p)) = tK (fK st i) (fL st i) num 6 p := by
  unfold knitF tK fK
  rw [if_neg (by omega), if_neg (by omega), if_pos (by omega), if_pos h, show 6 + 31 * i + (19 + p) - (6 + 31 * i + 19) = p by omega]
theorem knitF_L {p : Nat} (h : p < 6) : knitF st i num (6 + 31 * i + (25 + p)) = tL (fK st i) (fL st i) num 6 p := by
  unfold knitF tL fL
  rw [if_neg (by omega), if_neg (by omega), if_neg (by omega), if_pos (by omega), if_pos h, show 6 + 31 * i + (25 + p) - (6 + 31 * i + 25) = p by omega]
theorem knitF_o {k j : Nat} (hk : k ≠ i) (hj : j < 31) : knitF st i num (6 + 31 * k + j) = st (6 + 31 * k + j) := by
  unfold knitF
  rw [if_neg (by omega), if_neg (by omega), if_neg (by omega), if_neg (by omega)]
theorem knitF_0 : knitF st i num 0 = st 0 + sumN (mK (fK st i) (fL st i) num) 6 := rfl
theorem knitF_1 : knitF st i num 1 = st 1 + sumN (mL (fK st i) (fL st i) num) 6 := rfl
theorem tieF_c {x : Nat} (h : x < 6) : tieF st i num x = knitF st i num x := by
  unfold tieF
  rw [if_neg (by omega), if_neg (by omega)]
theorem tieF_n : tieF st i num (6 + 31 * i + 1) = nI (cm st i + 1) := by
  unfold tieF
  rw [if_pos rfl]
theorem tieF_p {k : Nat} (h : k < 16) (hm : cm st i < 16) : tieF st i num (6 + 31 * i + (3 + k)) = upd (fP st i) (cm st i) num k := by
  unfold tieF upd
  rw [if_neg (by omega)]
  by_cases hk : k = cm st i
  · subst hk
    rw [if_pos rfl, if_pos rfl]
  · rw [if_neg (by omega), if_neg hk, knitF_h (by omega)]
    rfl
theorem tieF_h {j : Nat} (h1 : j ≠ 1) (h : j < 3 ∨ 19 ≤ j) (hm : cm st i < 16) : tieF st i num (6 + 31 * i + j) = knitF st i num (6 + 31 * i + j) := by
  unfold tieF
  rw [if_neg (by omega), if_neg (by omega)]
theorem tieF_o {k j : Nat} (hk : k ≠ i) (hj : j < 31) (hm : cm st i < 16) : tieF st i num (6 + 31 * k + j) = st (6 + 31 * k + j) := by
  unfold tieF
  rw [if_neg (by omega), if_neg (by omega), knitF_o hk hj]
theorem upd4_c {x : Nat} {v : Int32} (h : x ≠ 4) : upd st 4 v x = st x := by simp [upd, h]
theorem upd4_4 {v : Int32} : upd st 4 v 4 = v := by simp [upd]
end ZF
section ZF2
variable {l : Launch} {D : va_G} {cy : Nat → ClassId} {K : Nat} {ad : Nat → Nat} {g : Nat → va_E} {n i : Nat} {st : Nat → Int32} {num : Int32}
theorem i32_addsub (b c : Int32) : b + c - b = c := by grind
theorem zFr_herd {g1 : Nat → va_E} (hi : i < 7) (h : zFr (fun z9 => z9 = n ∨ (n + 2 + 4 * i ≤ z9 ∧ z9 < n + 2 + 4 * i + 4)) g g1) : zFr (zRg n (n + 30)) g g1 := h.mono (fun x hx => by dsimp only [zRg] at hx ⊢; omega)
/-- refused: only the count of what was refused grows -/
theorem isH_ref (hH : isH cy K ad g n st) {g1 : Nat → va_E} {rw : Nat → Option Nat} {kn lo pa : Nat → Int32} (hi : i < 7) (hrw : ∀ i, i < 7 → rw i = some (ad (n + 2 + 4 * i))) (hf : zFr (fun z9 => z9 = n ∨ (n + 2 + 4 * i ≤ z9 ∧ z9 < n + 2 + 4 * i + 4)) g g1)
    (hG : isG cy K ad g1 n rw (st 5) (st 0) (st 1) (st 2) (st 3) (st 4 + 1)) (hC : isC cy K ad g1 (n + 2 + 4 * i) kn lo pa (st (6 + 31 * i + 1)) (st (6 + 31 * i + 0)) (st (6 + 31 * i + 2))) (h1 : ∀ p, p < 6 → kn p = fK st i p) (h2 : ∀ p, p < 6 → lo p = fL st i p) (h3 : ∀ p, p < 16 → pa p = fP st i p) : isH cy K ad g1 n (upd st 4 (st 4 + 1)) :=
  hH.put hi (x := fun j => st (6 + 31 * i + j)) hrw hf hG ⟨kn, lo, pa, hC, h1, h2, h3⟩ (upd4_c (by decide)).symm (upd4_c (by decide)).symm (upd4_c (by decide)).symm (upd4_c (by decide)).symm (upd4_c (by decide)).symm upd4_4.symm (fun j hj => (upd4_c (by omega)).symm) (fun k hk hki j hj => upd4_c (by omega))
/-- knitted: knots and loops grow on one cord -/
theorem isH_knit (hH : isH cy K ad g n st) {g1 : Nat → va_E} {rw : Nat → Option Nat} {kn lo pa : Nat → Int32} {kt lt : Int32} (hi : i < 7) (hrw : ∀ i, i < 7 → rw i = some (ad (n + 2 + 4 * i))) (hf : zFr (fun z9 => z9 = n ∨ (n + 2 + 4 * i ≤ z9 ∧ z9 < n + 2 + 4 * i + 4)) g g1)
    (hG : isG cy K ad g1 n rw (st 5) kt lt (st 2) (st 3) (st 4)) (ek : kt = st 0 + sumN (mK (fK st i) (fL st i) num) 6) (el : lt = st 1 + sumN (mL (fK st i) (fL st i) num) 6) (hC : isC cy K ad g1 (n + 2 + 4 * i) kn lo pa (st (6 + 31 * i + 1)) (st (6 + 31 * i + 0)) (st (6 + 31 * i + 2))) (h1 : ∀ p, p < 6 → kn p = tK (fK st i) (fL st i) num 6 p) (h2 : ∀ p, p < 6 → lo p = tL (fK st i) (fL st i) num 6 p) (h3 : ∀ p, p < 16 → pa p = fP st i p) : isH cy K ad g1 n (knitF st i num) := by
  refine hH.put hi (x := fun j => knitF st i num (6 + 31 * i + j)) hrw hf hG ⟨kn, lo, pa, ?_, fun p hp => (h1 p hp).trans (knitF_K hp).symm, fun p hp => (h2 p hp).trans (knitF_L hp).symm, fun p hp => (h3 p hp).trans (knitF_h (by omega)).symm⟩ (knitF_c (by decide) (by decide) (by decide)).symm ek el (knitF_c (by decide) (by decide) (by decide)).symm (knitF_c (by decide) (by decide) (by decide)).symm (knitF_c (by decide) (by decide) (by decide)).symm (fun j hj => rfl) (fun k hk hki j hj => knitF_o hki hj)
  show isC cy K ad g1 _ kn lo pa (knitF st i num (6 + 31 * i + 1)) (knitF st i num (6 + 31 * i + 0)) (knitF st i num (6 + 31 * i + 2))
  rw [knitF_h (by decide), knitF_h (by decide), knitF_h (by decide)]
  exact hC
theorem isH_tie (hH : isH cy K ad g n st) {g1 : Nat → va_E} {rw : Nat → Option Nat} {kn lo pa : Nat → Int32} {kt lt : Int32} (hi : i < 7) (hm : cm st i < 16) (hrw : ∀ i, i < 7 → rw i = some (ad (n + 2 + 4 * i))) (hf : zFr (fun z9 => z9 = n ∨ (n + 2 + 4 * i ≤ z9 ∧ z9 < n + 2 + 4 * i + 4)) g g1)
    (hG : isG cy K ad g1 n rw (st 5) kt lt (st 2) (st 3) (st 4)) (ek : kt = st 0 + sumN (mK (fK st i) (fL st i) num) 6) (el : lt = st 1 + sumN (mL (fK st i) (fL st i) num) 6) (hC : isC cy K ad g1 (n + 2 + 4 * i) kn lo pa (nI (cm st i + 1)) (st (6 + 31 * i + 0)) (st (6 + 31 * i + 2))) (h1 : ∀ p, p < 6 → kn p = tK (fK st i) (fL st i) num 6 p) (h2 : ∀ p, p < 6 → lo p = tL (fK st i) (fL st i) num 6 p) (h3 : ∀ p, p < 16 → pa p = upd (fP st i) (cm st i) num p) : isH cy K ad g1 n (tieF st i num) := by
  refine hH.put hi (x := fun j => tieF st i num (6 + 31 * i + j)) hrw hf hG ⟨kn, lo, pa, ?_, fun p hp => (h1 p hp).trans ((tieF_h (by omega) (by omega) hm).trans (knitF_K hp)).symm, fun p hp => (h2 p hp).trans ((tieF_h (by omega) (by omega) hm).trans (knitF_L hp)).symm, fun p hp => (h3 p hp).trans (tieF_p hp hm).symm⟩ ((tieF_c (by decide)).trans (knitF_c (by decide) (by decide) (by decide))).symm ((ek.trans knitF_0.symm).trans (tieF_c (x := 0) (by decide)).symm) ((el.trans knitF_1.symm).trans (tieF_c (x := 1) (by decide)).symm) ((tieF_c (by decide)).trans (knitF_c (by decide) (by decide) (by decide))).symm ((tieF_c (by decide)).trans (knitF_c (by decide) (by decide) (by decide))).symm ((tieF_c (by decide)).trans (knitF_c (by decide) (by decide) (by decide))).symm (fun j hj => rfl) (fun k hk hki j hj => tieF_o hki hj hm)
  show isC cy K ad g1 _ kn lo pa (tieF st i num (6 + 31 * i + 1)) (tieF st i num (6 + 31 * i + 0)) (tieF st i num (6 + 31 * i + 2))
  rw [tieF_n, tieF_h (by decide) (by decide) hm, tieF_h (by decide) (by decide) hm, knitF_h (by decide), knitF_h (by decide)]
  exact hC
theorem mf_tiePart (l : Launch) {D : va_G} (sz : Nat) (hH : isH cy K ad g n st) (hi : i < 7) (hpc : pcOK st) : Met l yX1_tiePart (zs yX1_tiePart cX1_tiePart 6 (some .int)) ({ frames := 4, cells := 0, slots := 0, locals := 93 } : Room) (va_Pc [.ref (ad n), .ref (ad (n + 2 + 4 * i)), .int num] (zIn D cy K ad g sz)) (va_Qi (fun r g1 => r = tieR st i num ∧ isH cy K ad g1 n (tieS st i num) ∧ zFr (zRg n (n + 30)) g g1) (zOut D cy K ad sz) (zA K ad sz)) 0 0 (zA K ad sz) := by
  obtain ⟨rw, hG, hrw, hCs⟩ := id hH
  obtain ⟨kn, lo, pa, hC, h1, h2, h3⟩ := hCs i hi
  have e1 : (fun j => st (6 + 31 * i + j)) 1 = nI (cm st i) := (hpc i hi).1
  have hC0 := hC
  rw [e1] at hC
  refine z_postI (m_X1_tiePart l sz hG hC (by omega) (hpc i hi).2) (fun r g1 h => ?_)
  have ec : rop kn lo (cm st i) num (st 5) = cRop st i num := rop_congr h1 h2
  rw [ec] at h
  unfold tieR tieS
  rcases h with ⟨c1, h4, h5, h6, h7⟩ | ⟨c1, h4, h5, h6, h7⟩
  · rw [if_neg c1, if_neg c1]
    refine ⟨h4, isH_ref hH hi hrw h7 h5 ?_ h1 h2 h3, zFr_herd hi h7⟩
    rw [← e1] at h6
    exact h6
  · rw [if_pos c1, if_pos c1]
    have eL : sumN (tL kn lo num 6) 6 - sumN lo 6 = sumN (mL (fK st i) (fL st i) num) 6 := by
      rw [sumN_tL, sumN_congr (m := 6) (fun k hk => mL_congr h1 h2 hk)]; exact i32_addsub _ _
    have eK : sumN (tK kn lo num 6) 6 - sumN kn 6 = sumN (mK (fK st i) (fL st i) num) 6 := by
      rw [sumN_tK, sumN_congr (m := 6) (fun k hk => mK_congr h1 h2 hk)]; exact i32_addsub _ _
    rw [eL] at h4
    refine ⟨h4, isH_tie hH hi (rop_lt c1) hrw h7 h5 (by rw [eK]) (by rw [eL]) h6 (fun p hp => tK_congr h1 h2 hp) (fun p hp => tL_congr h1 h2 hp) (fun p hp => ?_), zFr_herd hi h7⟩
    simp only [upd]
    split
    · rfl
    · exact h3 p hp
theorem mf_tieLack (l : Launch) {D : va_G} (sz : Nat) (hH : isH cy K ad g n st) (hi : i < 7) (hpc : pcOK st) : Met l yX1_tieLack (zs yX1_tieLack cX1_tieLack 6 (some .int)) ({ frames := 3, cells := 0, slots := 0, locals := 71 } : Room) (va_Pc [.ref (ad n), .ref (ad (n + 2 + 4 * i))] (zIn D cy K ad g sz)) (va_Qi (fun r g1 => r = mendR st i ∧ isH cy K ad g1 n (mendS st i) ∧ zFr (zRg n (n + 30)) g g1) (zOut D cy K ad sz) (zA K ad sz)) 0 0 (zA K ad sz) := by
  obtain ⟨rw, hG, hrw, hCs⟩ := id hH
  obtain ⟨kn, lo, pa, hC, h1, h2, h3⟩ := hCs i hi
  have e1 : (fun j => st (6 + 31 * i + j)) 1 = nI (cm st i) := (hpc i hi).1
  rw [e1] at hC
  refine z_postI (m_X1_tieLack l sz hG hC (by omega) (hpc i hi).2) (fun r g1 h => ?_)
  have el : sumN pa (cm st i) - tld kn lo 6 = cLack st i := by
    unfold cLack cParts cTold
    rw [sumN_congr (m := cm st i) (fun k hk => h3 k (Nat.lt_of_lt_of_le hk (hpc i hi).2)), tld_congr h1 h2 6]
    rfl
  rw [el] at h
  have ec : refuse kn lo (cLack st i) (st 5) = cRef st i (cLack st i) := refuse_congr h1 h2
  rw [ec] at h
  unfold mendR mendS
  rcases h with ⟨c0, h4, rfl⟩ | ⟨c0, c1, h4, h5, h6, h7⟩ | ⟨c0, c1, h4, h5, h6, h7⟩
  · rw [if_pos c0, if_pos c0]
    exact ⟨h4, hH, zFr.rf⟩
  · rw [if_neg c0, if_neg c0, if_neg c1, if_neg c1]
    refine ⟨h4, isH_ref hH hi hrw h7 h5 ?_ h1 h2 h3, zFr_herd hi h7⟩
    rw [← e1] at h6
    exact h6
  · rw [if_neg c0, if_neg c0, if_pos c1, if_pos c1]
    have eL : sumN (tL kn lo (cLack st i) 6) 6 - sumN lo 6 = sumN (mL (fK st i) (fL st i) (cLack st i)) 6 := by
      rw [sumN_tL, sumN_congr (m := 6) (fun k hk => mL_congr h1 h2 hk)]; exact i32_addsub _ _
    have eK : sumN (tK kn lo (cLack st i) 6) 6 - sumN kn 6 = sumN (mK (fK st i) (fL st i) (cLack st i)) 6 := by
      rw [sumN_tK, sumN_congr (m := 6) (fun k hk => mK_congr h1 h2 hk)]; exact i32_addsub _ _
    rw [← e1] at h6
    exact ⟨h4, isH_knit hH hi hrw h7 h5 (by rw [eK]) (by rw [eL]) h6 (fun p hp => tK_congr h1 h2 hp) (fun p hp => tL_congr h1 h2 hp) h3, zFr_herd hi h7⟩
theorem mf_loosen (l : Launch) {D : va_G} (sz : Nat) {jz : Nat} (hH : isH cy K ad g n st) (hi : i < 7) (hj : jz < 6) : Met l yX1_loosen (zs yX1_loosen cX1_loosen 3 (some .int)) ({ frames := 1, cells := 0, slots := 0, locals := 21 } : Room) (va_Pc [.ref (ad n), .ref (ad (n + 2 + 4 * i)), .int (nI jz)] (zIn D cy K ad g sz)) (va_Qi (fun r g1 => r = slipR st i jz ∧ isH cy K ad g1 n (slipS st i jz) ∧ zFr (zRg n (n + 30)) g g1) (zOut D cy K ad sz) (zA K ad sz)) 0 0 (zA K ad sz) := by
  obtain ⟨rw, hG, hrw, hCs⟩ := id hH
  obtain ⟨kn, lo, pa, hC, h1, h2, h3⟩ := hCs i hi
  refine z_postI (m_X1_loosen l sz hG hC (by omega) hj) (fun r g1 h => ?_)
  have eo : opn kn lo jz = opn (fK st i) (fL st i) jz := opn_congr h1 h2 hj
  rw [eo] at h
  unfold slipR slipS
  rcases h with ⟨c0, h4, h5, h6, h7⟩ | ⟨c0, h4, h5, h6, h7⟩
  · rw [if_pos c0, if_pos c0]
    exact ⟨h4, isH_ref hH hi hrw h7 h5 h6 h1 h2 h3, zFr_herd hi h7⟩
  · rw [if_neg c0, if_neg c0]
    refine ⟨?_, hH.put hi (x := fun j => slipF st i jz (6 + 31 * i + j)) hrw h7 h5 ⟨upd kn jz (kn jz - 1), lo, pa, ?_, fun p hp => ?_, fun p hp => ?_, fun p hp => ?_⟩ ?_ ?_ ?_ ?_ ?_ ?_ (fun j hj => rfl) (fun k hk hki j hj2 => ?_), zFr_herd hi h7⟩
    · rw [h4]
      simp only [opn, upd, if_true]
      rw [h1 jz hj, h2 jz hj]
      rfl
    · show isC cy K ad g1 _ _ lo pa (slipF st i jz (6 + 31 * i + 1)) (slipF st i jz (6 + 31 * i + 0)) (slipF st i jz (6 + 31 * i + 2))
      have a1 : slipF st i jz (6 + 31 * i + 1) = st (6 + 31 * i + 1) := by unfold slipF; rw [if_neg (by omega), if_neg (by omega), if_neg (by omega)]
      have a0 : slipF st i jz (6 + 31 * i + 0) = st (6 + 31 * i + 0) := by unfold slipF; rw [if_neg (by omega), if_neg (by omega), if_neg (by omega)]
      have a2 : slipF st i jz (6 + 31 * i + 2) = st (6 + 31 * i + 2) + 1 := by unfold slipF; rw [if_neg (by omega), if_pos rfl]
      rw [a1, a0, a2]
      exact h6
    · show upd kn jz (kn jz - 1) p = slipF st i jz (6 + 31 * i + (19 + p))
      unfold upd slipF
      by_cases hp2 : p = jz
      · subst hp2
        rw [if_pos rfl, if_pos rfl, h1 p hj]
      · rw [if_neg hp2, if_neg (by omega), if_neg (by omega), if_neg (by omega), h1 p hp]
    · show lo p = slipF st i jz (6 + 31 * i + (25 + p))
      unfold slipF
      rw [if_neg (by omega), if_neg (by omega), if_neg (by omega), h2 p hp]
    · show pa p = slipF st i jz (6 + 31 * i + (3 + p))
      unfold slipF
      rw [if_neg (by omega), if_neg (by omega), if_neg (by omega), h3 p hp]
    · unfold slipF; rw [if_neg (by omega), if_neg (by omega), if_neg (by omega)]
    · unfold slipF; rw [if_neg (by omega), if_neg (by omega), if_neg (by omega)]
    · unfold slipF; rw [if_neg (by omega), if_neg (by omega), if_neg (by omega)]
    · unfold slipF; rw [if_neg (by omega), if_neg (by omega), if_pos rfl]
    · unfold slipF; rw [if_neg (by omega), if_neg (by omega), if_neg (by omega)]
    · unfold slipF; rw [if_neg (by omega), if_neg (by omega), if_neg (by omega)]
    · unfold slipF; rw [if_neg (by omega), if_neg (by omega), if_neg (by omega)]
theorem mf_replace (l : Launch) {D : va_G} (sz : Nat) (hH : isH cy K ad g n st) (hi : i < 7) : Met l yX1_replace (zs yX1_replace cX1_replace 3 (some .int)) ({ frames := 3, cells := 0, slots := 0, locals := 63 } : Room) (va_Pc [.ref (ad n), .ref (ad (n + 2 + 4 * i))] (zIn D cy K ad g sz)) (va_Qi (fun r g1 => r = cTold st i ∧ isH cy K ad g1 n (renF st i) ∧ zFr (zRg n (n + 30)) g g1) (zOut D cy K ad sz) (zA K ad sz)) 0 0 (zA K ad sz) := by
  obtain ⟨rw, hG, hrw, hCs⟩ := id hH
  obtain ⟨kn, lo, pa, hC, h1, h2, h3⟩ := hCs i hi
  refine z_postI (m_X1_replace l sz hG hC (by omega)) (fun r g1 h => ?_)
  obtain ⟨h4, h5, h6, h7⟩ := h
  have eT : sumN kn 6 + sumN lo 6 = cTies st i := by
    unfold cTies
    rw [sumN_congr (m := 6) h1, sumN_congr (m := 6) h2]
    rfl
  rw [eT] at h5
  refine ⟨h4.trans (tld_congr h1 h2 6), hH.put hi (x := fun j => renF st i (6 + 31 * i + j)) hrw h7 h5 ⟨zK kn 6, zK lo 6, pa, ?_, fun p hp => ?_, fun p hp => ?_, fun p hp => ?_⟩ ?_ ?_ ?_ ?_ ?_ ?_ (fun j hj => rfl) (fun k hk hki j hj2 => ?_), zFr_herd hi h7⟩
  · show isC cy K ad g1 _ _ _ pa (renF st i (6 + 31 * i + 1)) (renF st i (6 + 31 * i + 0)) (renF st i (6 + 31 * i + 2))
    have a1 : renF st i (6 + 31 * i + 1) = 0 := by unfold renF; rw [if_neg (by omega), if_pos (by omega)]
    have a0 : renF st i (6 + 31 * i + 0) = st (6 + 31 * i + 0) := by unfold renF; rw [if_neg (by omega), if_neg (by omega), if_neg (by omega)]
    have a2 : renF st i (6 + 31 * i + 2) = 0 := by unfold renF; rw [if_neg (by omega), if_pos (by omega)]
    rw [a1, a0, a2]
    exact h6
  · show zK kn 6 p = renF st i (6 + 31 * i + (19 + p))
    unfold zK renF
    rw [if_pos hp, if_neg (by omega), if_neg (by omega), if_pos (by omega)]
  · show zK lo 6 p = renF st i (6 + 31 * i + (25 + p))
    unfold zK renF
    rw [if_pos hp, if_neg (by omega), if_neg (by omega), if_pos (by omega)]
  · show pa p = renF st i (6 + 31 * i + (3 + p))
    unfold renF
    rw [if_neg (by omega), if_neg (by omega), if_neg (by omega), h3 p hp]
  · unfold renF; rw [if_neg (by omega), if_neg (by omega), if_neg (by omega)]
  · unfold renF; rw [if_neg (by omega), if_neg (by omega), if_neg (by omega)]
  · unfold renF; rw [if_neg (by omega), if_neg (by omega), if_neg (by omega)]
  · unfold renF; rw [if_neg (by omega), if_neg (by omega), if_neg (by omega)]
  · unfold renF; rw [if_pos rfl]
  · unfold renF; rw [if_neg (by omega), if_neg (by omega), if_neg (by omega)]
  · unfold renF; rw [if_neg (by omega), if_neg (by omega), if_neg (by omega)]
end ZF2
end
