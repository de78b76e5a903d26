set_option maxRecDepth 100000 in
theorem q346 : Cond.code ⟨"HerdCordsLaw", "cell", "([II)I"⟩ method_2_code 2 (some .int) ∈ zW := zw_mem 346 rfl (by decide +kernel)
set_option maxRecDepth 100000 in
theorem q350 : Cond.code ⟨"HerdCordsLaw", "change", "(LHerdCords;II)Z"⟩ method_5_code 18 (some .boolean) ∈ zW := zw_mem 350 rfl (by decide +kernel)
set_option maxRecDepth 100000 in
theorem q353 : Cond.code ⟨"HerdCordsLaw", "low", "(II)I"⟩ method_3_code 2 (some .int) ∈ zW := zw_mem 353 rfl (by decide +kernel)
set_option maxRecDepth 100000 in
theorem q392 : Cond.code ⟨"HerdCordsLaw", "number", "(I)I"⟩ method_4_code 4 (some .int) ∈ zW := zw_mem 392 rfl (by decide +kernel)
set_option maxRecDepth 100000 in
theorem q395 : Cond.code ⟨"HerdCordsLaw", "ties", "(LHerdCords;II)Z"⟩ method_6_code 16 (some .boolean) ∈ zW := zw_mem 395 rfl (by decide +kernel)
set_option maxRecDepth 100000 in
theorem q526 : Cond.code ⟨"HerdCordsLaw", "holds", "(LHerdCords;I)Z"⟩ method_8_code 15 (some .boolean) ∈ zW := zw_mem 526 rfl (by decide +kernel)
set_option maxRecDepth 100000 in
theorem q529 : Cond.code ⟨"HerdCordsLaw", "isCord", "(LHerdCords;I)Z"⟩ method_7_code 13 (some .boolean) ∈ zW := zw_mem 529 rfl (by decide +kernel)
set_option maxRecDepth 100000 in
theorem q554 : Cond.code ⟨"HerdCordsLaw", "bits", "(I)I"⟩ method_9_code 3 (some .int) ∈ zW := zw_mem 554 rfl (by decide +kernel)
