set_option maxRecDepth 100000 in
theorem am_w0 : ∀ w ∈ u_ws am_R0 am_F0 7, w ∈ am_T := wd_inr _ [289, 291, 293, 295, 297, 299, 301] (by decide +kernel) (by decide +kernel)
theorem am_ty0 : ∀ q, q < 7 → parseFieldDescriptor (am_F0 q).2.2.1 = some (am_ft 0 q) := by decide +kernel
theorem am_nm0 : ∀ a, a < 7 → ∀ b, b < 7 → a ≠ b → (am_F0 a).2.1 ≠ (am_F0 b).2.1 := by decide +kernel
set_option maxRecDepth 100000 in
theorem am_w1 : ∀ w ∈ u_ws am_R1 am_F1 11, w ∈ am_T := wd_inr _ [77, 79, 81, 83, 85, 87, 89, 91, 93, 95, 97] (by decide +kernel) (by decide +kernel)
theorem am_ty1 : ∀ q, q < 11 → parseFieldDescriptor (am_F1 q).2.2.1 = some (am_ft 1 q) := by decide +kernel
theorem am_nm1 : ∀ a, a < 11 → ∀ b, b < 11 → a ≠ b → (am_F1 a).2.1 ≠ (am_F1 b).2.1 := by decide +kernel
set_option maxRecDepth 100000 in
theorem am_w2 : ∀ w ∈ u_ws am_R2 am_F2 1, w ∈ am_T := wd_inr _ [105] (by decide +kernel) (by decide +kernel)
theorem am_ty2 : ∀ q, q < 1 → parseFieldDescriptor (am_F2 q).2.2.1 = some (am_ft 2 q) := by decide +kernel
theorem am_nm2 : ∀ a, a < 1 → ∀ b, b < 1 → a ≠ b → (am_F2 a).2.1 ≠ (am_F2 b).2.1 := by decide +kernel
set_option maxRecDepth 100000 in
theorem am_w3 : ∀ w ∈ u_ws am_R3 am_F3 10, w ∈ am_T := wd_inr _ [126, 128, 130, 132, 134, 136, 138, 140, 142, 144] (by decide +kernel) (by decide +kernel)
theorem am_ty3 : ∀ q, q < 10 → parseFieldDescriptor (am_F3 q).2.2.1 = some (am_ft 3 q) := by decide +kernel
theorem am_nm3 : ∀ a, a < 10 → ∀ b, b < 10 → a ≠ b → (am_F3 a).2.1 ≠ (am_F3 b).2.1 := by decide +kernel
set_option maxRecDepth 100000 in
theorem am_w4 : ∀ w ∈ u_ws am_R4 am_F4 8, w ∈ am_T := wd_inr _ [265, 267, 269, 271, 273, 275, 277, 279] (by decide +kernel) (by decide +kernel)
theorem am_ty4 : ∀ q, q < 8 → parseFieldDescriptor (am_F4 q).2.2.1 = some (am_ft 4 q) := by decide +kernel
theorem am_nm4 : ∀ a, a < 8 → ∀ b, b < 8 → a ≠ b → (am_F4 a).2.1 ≠ (am_F4 b).2.1 := by decide +kernel
set_option maxRecDepth 100000 in
theorem am_w5 : ∀ w ∈ u_ws am_R5 am_F5 7, w ∈ am_T := wd_inr _ [173, 175, 177, 179, 181, 183, 185] (by decide +kernel) (by decide +kernel)
theorem am_ty5 : ∀ q, q < 7 → parseFieldDescriptor (am_F5 q).2.2.1 = some (am_ft 5 q) := by decide +kernel
theorem am_nm5 : ∀ a, a < 7 → ∀ b, b < 7 → a ≠ b → (am_F5 a).2.1 ≠ (am_F5 b).2.1 := by decide +kernel
set_option maxRecDepth 100000 in
theorem am_w6 : ∀ w ∈ u_ws am_R6 am_F6 9, w ∈ am_T := wd_inr _ [197, 199, 201, 203, 205, 207, 209, 211, 213] (by decide +kernel) (by decide +kernel)
theorem am_ty6 : ∀ q, q < 9 → parseFieldDescriptor (am_F6 q).2.2.1 = some (am_ft 6 q) := by decide +kernel
theorem am_nm6 : ∀ a, a < 9 → ∀ b, b < 9 → a ≠ b → (am_F6 a).2.1 ≠ (am_F6 b).2.1 := by decide +kernel
set_option maxRecDepth 100000 in
theorem am_w7 : ∀ w ∈ u_ws am_R7 am_F7 4, w ∈ am_T := wd_inr _ [228, 230, 232, 234] (by decide +kernel) (by decide +kernel)
theorem am_ty7 : ∀ q, q < 4 → parseFieldDescriptor (am_F7 q).2.2.1 = some (am_ft 7 q) := by decide +kernel
theorem am_nm7 : ∀ a, a < 4 → ∀ b, b < 4 → a ≠ b → (am_F7 a).2.1 ≠ (am_F7 b).2.1 := by decide +kernel
set_option maxRecDepth 100000 in
theorem am_w8 : ∀ w ∈ u_ws am_R8 am_F8 52, w ∈ am_T := wd_inr _ [768, 770, 772, 774, 776, 778, 780, 782, 784, 786, 788, 790, 792, 794, 796, 798, 800, 802, 804, 806, 808, 810, 812, 814, 816, 818, 820, 822, 824, 826, 828, 830, 832, 834, 836, 838, 840, 842, 844, 846, 848, 850, 852, 854, 856, 858, 860, 862, 864, 866, 868, 870] (by decide +kernel) (by decide +kernel)
theorem am_ty8 : ∀ q, q < 52 → parseFieldDescriptor (am_F8 q).2.2.1 = some (am_ft 8 q) := by decide +kernel
theorem am_nm8 : ∀ a, a < 52 → ∀ b, b < 52 → a ≠ b → (am_F8 a).2.1 ≠ (am_F8 b).2.1 := by decide +kernel
theorem flF_11 : am_Fl "FrameForge" 11 0 0 := ⟨am_R0, am_F0, 7, rfl, by decide, am_w0, wd_in 282 (by decide +kernel) rfl, am_ty0, am_nm0⟩
theorem ffF_11 : am_Ff "FrameForge" 11 0 0 := ⟨flF_11, am_R0, am_F0, 7, rfl, rfl, rfl⟩
theorem flF_19 : am_Fl "FrameForge" 19 0 1 := ⟨am_R0, am_F0, 7, rfl, by decide, am_w0, wd_in 283 (by decide +kernel) rfl, am_ty0, am_nm0⟩
theorem ffF_19 : am_Ff "FrameForge" 19 0 1 := ⟨flF_19, am_R0, am_F0, 7, rfl, rfl, rfl⟩
theorem flF_26 : am_Fl "FrameForge" 26 0 2 := ⟨am_R0, am_F0, 7, rfl, by decide, am_w0, wd_in 284 (by decide +kernel) rfl, am_ty0, am_nm0⟩
theorem ffF_26 : am_Ff "FrameForge" 26 0 2 := ⟨flF_26, am_R0, am_F0, 7, rfl, rfl, rfl⟩
theorem flF_33 : am_Fl "FrameForge" 33 0 3 := ⟨am_R0, am_F0, 7, rfl, by decide, am_w0, wd_in 285 (by decide +kernel) rfl, am_ty0, am_nm0⟩
theorem ffF_33 : am_Ff "FrameForge" 33 0 3 := ⟨flF_33, am_R0, am_F0, 7, rfl, rfl, rfl⟩
theorem flF_40 : am_Fl "FrameForge" 40 0 4 := ⟨am_R0, am_F0, 7, rfl, by decide, am_w0, wd_in 286 (by decide +kernel) rfl, am_ty0, am_nm0⟩
theorem ffF_40 : am_Ff "FrameForge" 40 0 4 := ⟨flF_40, am_R0, am_F0, 7, rfl, rfl, rfl⟩
theorem flF_44 : am_Fl "FrameForge" 44 0 5 := ⟨am_R0, am_F0, 7, rfl, by decide, am_w0, wd_in 287 (by decide +kernel) rfl, am_ty0, am_nm0⟩
theorem ffF_44 : am_Ff "FrameForge" 44 0 5 := ⟨flF_44, am_R0, am_F0, 7, rfl, rfl, rfl⟩
theorem flF_47 : am_Fl "FrameForge" 47 0 6 := ⟨am_R0, am_F0, 7, rfl, by decide, am_w0, wd_in 288 (by decide +kernel) rfl, am_ty0, am_nm0⟩
theorem fpF_47 : am_Fp "FrameForge" 47 0 6 := ⟨flF_47, am_R0, am_F0, 7, rfl, rfl⟩
theorem flF_77 : am_Fl "FrameForge" 77 1 7 := ⟨am_R1, am_F1, 11, rfl, by decide, am_w1, wd_in 62 (by decide +kernel) rfl, am_ty1, am_nm1⟩
theorem fpF_77 : am_Fp "FrameForge" 77 1 7 := ⟨flF_77, am_R1, am_F1, 11, rfl, rfl⟩
theorem flF_88 : am_Fl "FrameForge" 88 1 8 := ⟨am_R1, am_F1, 11, rfl, by decide, am_w1, wd_in 66 (by decide +kernel) rfl, am_ty1, am_nm1⟩
theorem flF_95 : am_Fl "FrameForge" 95 3 1 := ⟨am_R3, am_F3, 10, rfl, by decide, am_w3, wd_in 117 (by decide +kernel) rfl, am_ty3, am_nm3⟩
theorem flF_102 : am_Fl "FrameForge" 102 3 0 := ⟨am_R3, am_F3, 10, rfl, by decide, am_w3, wd_in 115 (by decide +kernel) rfl, am_ty3, am_nm3⟩
theorem flF_120 : am_Fl "FrameForge" 120 4 1 := ⟨am_R4, am_F4, 8, rfl, by decide, am_w4, wd_in 247 (by decide +kernel) rfl, am_ty4, am_nm4⟩
theorem flF_123 : am_Fl "FrameForge" 123 4 2 := ⟨am_R4, am_F4, 8, rfl, by decide, am_w4, wd_in 249 (by decide +kernel) rfl, am_ty4, am_nm4⟩
theorem flF_126 : am_Fl "FrameForge" 126 4 3 := ⟨am_R4, am_F4, 8, rfl, by decide, am_w4, wd_in 253 (by decide +kernel) rfl, am_ty4, am_nm4⟩
theorem flF_129 : am_Fl "FrameForge" 129 4 4 := ⟨am_R4, am_F4, 8, rfl, by decide, am_w4, wd_in 255 (by decide +kernel) rfl, am_ty4, am_nm4⟩
theorem flF_132 : am_Fl "FrameForge" 132 4 5 := ⟨am_R4, am_F4, 8, rfl, by decide, am_w4, wd_in 259 (by decide +kernel) rfl, am_ty4, am_nm4⟩
theorem flF_135 : am_Fl "FrameForge" 135 4 6 := ⟨am_R4, am_F4, 8, rfl, by decide, am_w4, wd_in 261 (by decide +kernel) rfl, am_ty4, am_nm4⟩
theorem flF_138 : am_Fl "FrameForge" 138 4 7 := ⟨am_R4, am_F4, 8, rfl, by decide, am_w4, wd_in 263 (by decide +kernel) rfl, am_ty4, am_nm4⟩
theorem flF_144 : am_Fl "FrameForge" 144 4 0 := ⟨am_R4, am_F4, 8, rfl, by decide, am_w4, wd_in 244 (by decide +kernel) rfl, am_ty4, am_nm4⟩
theorem flF_158 : am_Fl "FrameForge" 158 1 1 := ⟨am_R1, am_F1, 11, rfl, by decide, am_w1, wd_in 43 (by decide +kernel) rfl, am_ty1, am_nm1⟩
theorem flF_161 : am_Fl "FrameForge" 161 1 9 := ⟨am_R1, am_F1, 11, rfl, by decide, am_w1, wd_in 71 (by decide +kernel) rfl, am_ty1, am_nm1⟩
theorem flF_164 : am_Fl "FrameForge" 164 1 10 := ⟨am_R1, am_F1, 11, rfl, by decide, am_w1, wd_in 76 (by decide +kernel) rfl, am_ty1, am_nm1⟩
theorem flF_183 : am_Fl "FrameForge" 183 1 0 := ⟨am_R1, am_F1, 11, rfl, by decide, am_w1, wd_in 38 (by decide +kernel) rfl, am_ty1, am_nm1⟩
theorem flF_186 : am_Fl "FrameForge" 186 1 2 := ⟨am_R1, am_F1, 11, rfl, by decide, am_w1, wd_in 48 (by decide +kernel) rfl, am_ty1, am_nm1⟩
theorem flF_196 : am_Fl "FrameForge" 196 2 0 := ⟨am_R2, am_F2, 1, rfl, by decide, am_w2, wd_in 104 (by decide +kernel) rfl, am_ty2, am_nm2⟩
theorem flC_9 : am_Fl "FrameForge$Checker" 9 3 0 := ⟨am_R3, am_F3, 10, rfl, by decide, am_w3, wd_in 114 (by decide +kernel) rfl, am_ty3, am_nm3⟩
theorem ffC_9 : am_Ff "FrameForge$Checker" 9 3 0 := ⟨flC_9, am_R3, am_F3, 10, rfl, rfl, rfl⟩
theorem flC_15 : am_Fl "FrameForge$Checker" 15 3 2 := ⟨am_R3, am_F3, 10, rfl, by decide, am_w3, wd_in 118 (by decide +kernel) rfl, am_ty3, am_nm3⟩
theorem ffC_15 : am_Ff "FrameForge$Checker" 15 3 2 := ⟨flC_15, am_R3, am_F3, 10, rfl, rfl, rfl⟩
theorem flC_18 : am_Fl "FrameForge$Checker" 18 3 3 := ⟨am_R3, am_F3, 10, rfl, by decide, am_w3, wd_in 119 (by decide +kernel) rfl, am_ty3, am_nm3⟩
theorem ffC_18 : am_Ff "FrameForge$Checker" 18 3 3 := ⟨flC_18, am_R3, am_F3, 10, rfl, rfl, rfl⟩
theorem flC_22 : am_Fl "FrameForge$Checker" 22 3 4 := ⟨am_R3, am_F3, 10, rfl, by decide, am_w3, wd_in 120 (by decide +kernel) rfl, am_ty3, am_nm3⟩
theorem ffC_22 : am_Ff "FrameForge$Checker" 22 3 4 := ⟨flC_22, am_R3, am_F3, 10, rfl, rfl, rfl⟩
theorem flC_25 : am_Fl "FrameForge$Checker" 25 3 5 := ⟨am_R3, am_F3, 10, rfl, by decide, am_w3, wd_in 121 (by decide +kernel) rfl, am_ty3, am_nm3⟩
theorem ffC_25 : am_Ff "FrameForge$Checker" 25 3 5 := ⟨flC_25, am_R3, am_F3, 10, rfl, rfl, rfl⟩
theorem flC_28 : am_Fl "FrameForge$Checker" 28 3 6 := ⟨am_R3, am_F3, 10, rfl, by decide, am_w3, wd_in 122 (by decide +kernel) rfl, am_ty3, am_nm3⟩
theorem ffC_28 : am_Ff "FrameForge$Checker" 28 3 6 := ⟨flC_28, am_R3, am_F3, 10, rfl, rfl, rfl⟩
theorem flC_31 : am_Fl "FrameForge$Checker" 31 2 0 := ⟨am_R2, am_F2, 1, rfl, by decide, am_w2, wd_in 102 (by decide +kernel) rfl, am_ty2, am_nm2⟩
theorem flC_41 : am_Fl "FrameForge$Checker" 41 3 9 := ⟨am_R3, am_F3, 10, rfl, by decide, am_w3, wd_in 125 (by decide +kernel) rfl, am_ty3, am_nm3⟩
theorem fpC_41 : am_Fp "FrameForge$Checker" 41 3 9 := ⟨flC_41, am_R3, am_F3, 10, rfl, rfl⟩
theorem flC_45 : am_Fl "FrameForge$Checker" 45 3 8 := ⟨am_R3, am_F3, 10, rfl, by decide, am_w3, wd_in 124 (by decide +kernel) rfl, am_ty3, am_nm3⟩
theorem fpC_45 : am_Fp "FrameForge$Checker" 45 3 8 := ⟨flC_45, am_R3, am_F3, 10, rfl, rfl⟩
theorem flC_62 : am_Fl "FrameForge$Checker" 62 1 7 := ⟨am_R1, am_F1, 11, rfl, by decide, am_w1, wd_in 63 (by decide +kernel) rfl, am_ty1, am_nm1⟩
theorem flC_63 : am_Fl "FrameForge$Checker" 63 3 1 := ⟨am_R3, am_F3, 10, rfl, by decide, am_w3, wd_in 116 (by decide +kernel) rfl, am_ty3, am_nm3⟩
theorem fpC_63 : am_Fp "FrameForge$Checker" 63 3 1 := ⟨flC_63, am_R3, am_F3, 10, rfl, rfl⟩
theorem flC_66 : am_Fl "FrameForge$Checker" 66 1 9 := ⟨am_R1, am_F1, 11, rfl, by decide, am_w1, wd_in 70 (by decide +kernel) rfl, am_ty1, am_nm1⟩
theorem flC_79 : am_Fl "FrameForge$Checker" 79 3 7 := ⟨am_R3, am_F3, 10, rfl, by decide, am_w3, wd_in 123 (by decide +kernel) rfl, am_ty3, am_nm3⟩
theorem fpC_79 : am_Fp "FrameForge$Checker" 79 3 7 := ⟨flC_79, am_R3, am_F3, 10, rfl, rfl⟩
theorem flC_82 : am_Fl "FrameForge$Checker" 82 1 8 := ⟨am_R1, am_F1, 11, rfl, by decide, am_w1, wd_in 67 (by decide +kernel) rfl, am_ty1, am_nm1⟩
theorem flC_88 : am_Fl "FrameForge$Checker" 88 1 5 := ⟨am_R1, am_F1, 11, rfl, by decide, am_w1, wd_in 55 (by decide +kernel) rfl, am_ty1, am_nm1⟩
theorem flC_91 : am_Fl "FrameForge$Checker" 91 1 0 := ⟨am_R1, am_F1, 11, rfl, by decide, am_w1, wd_in 37 (by decide +kernel) rfl, am_ty1, am_nm1⟩
theorem flC_94 : am_Fl "FrameForge$Checker" 94 1 1 := ⟨am_R1, am_F1, 11, rfl, by decide, am_w1, wd_in 42 (by decide +kernel) rfl, am_ty1, am_nm1⟩
theorem flC_118 : am_Fl "FrameForge$Checker" 118 1 2 := ⟨am_R1, am_F1, 11, rfl, by decide, am_w1, wd_in 47 (by decide +kernel) rfl, am_ty1, am_nm1⟩
theorem flA_9 : am_Fl "FrameForge$Frame" 9 5 0 := ⟨am_R5, am_F5, 7, rfl, by decide, am_w5, wd_in 161 (by decide +kernel) rfl, am_ty5, am_nm5⟩
theorem ffA_9 : am_Ff "FrameForge$Frame" 9 5 0 := ⟨flA_9, am_R5, am_F5, 7, rfl, rfl, rfl⟩
theorem flA_15 : am_Fl "FrameForge$Frame" 15 5 1 := ⟨am_R5, am_F5, 7, rfl, by decide, am_w5, wd_in 163 (by decide +kernel) rfl, am_ty5, am_nm5⟩
theorem ffA_15 : am_Ff "FrameForge$Frame" 15 5 1 := ⟨flA_15, am_R5, am_F5, 7, rfl, rfl, rfl⟩
theorem flA_18 : am_Fl "FrameForge$Frame" 18 5 5 := ⟨am_R5, am_F5, 7, rfl, by decide, am_w5, wd_in 169 (by decide +kernel) rfl, am_ty5, am_nm5⟩
theorem fpA_18 : am_Fp "FrameForge$Frame" 18 5 5 := ⟨flA_18, am_R5, am_F5, 7, rfl, rfl⟩
theorem flA_22 : am_Fl "FrameForge$Frame" 22 5 6 := ⟨am_R5, am_F5, 7, rfl, by decide, am_w5, wd_in 171 (by decide +kernel) rfl, am_ty5, am_nm5⟩
theorem fpA_22 : am_Fp "FrameForge$Frame" 22 5 6 := ⟨flA_22, am_R5, am_F5, 7, rfl, rfl⟩
theorem flA_25 : am_Fl "FrameForge$Frame" 25 5 3 := ⟨am_R5, am_F5, 7, rfl, by decide, am_w5, wd_in 165 (by decide +kernel) rfl, am_ty5, am_nm5⟩
theorem fpA_25 : am_Fp "FrameForge$Frame" 25 5 3 := ⟨flA_25, am_R5, am_F5, 7, rfl, rfl⟩
theorem flA_28 : am_Fl "FrameForge$Frame" 28 5 4 := ⟨am_R5, am_F5, 7, rfl, by decide, am_w5, wd_in 167 (by decide +kernel) rfl, am_ty5, am_nm5⟩
theorem fpA_28 : am_Fp "FrameForge$Frame" 28 5 4 := ⟨flA_28, am_R5, am_F5, 7, rfl, rfl⟩
theorem flA_31 : am_Fl "FrameForge$Frame" 31 5 2 := ⟨am_R5, am_F5, 7, rfl, by decide, am_w5, wd_in 164 (by decide +kernel) rfl, am_ty5, am_nm5⟩
theorem fpA_31 : am_Fp "FrameForge$Frame" 31 5 2 := ⟨flA_31, am_R5, am_F5, 7, rfl, rfl⟩
theorem flL_9 : am_Fl "FrameForge$Ledger" 9 4 0 := ⟨am_R4, am_F4, 8, rfl, by decide, am_w4, wd_in 243 (by decide +kernel) rfl, am_ty4, am_nm4⟩
theorem ffL_9 : am_Ff "FrameForge$Ledger" 9 4 0 := ⟨flL_9, am_R4, am_F4, 8, rfl, rfl, rfl⟩
theorem flL_15 : am_Fl "FrameForge$Ledger" 15 4 1 := ⟨am_R4, am_F4, 8, rfl, by decide, am_w4, wd_in 245 (by decide +kernel) rfl, am_ty4, am_nm4⟩
theorem fpL_15 : am_Fp "FrameForge$Ledger" 15 4 1 := ⟨flL_15, am_R4, am_F4, 8, rfl, rfl⟩
theorem flL_19 : am_Fl "FrameForge$Ledger" 19 4 2 := ⟨am_R4, am_F4, 8, rfl, by decide, am_w4, wd_in 248 (by decide +kernel) rfl, am_ty4, am_nm4⟩
theorem fpL_19 : am_Fp "FrameForge$Ledger" 19 4 2 := ⟨flL_19, am_R4, am_F4, 8, rfl, rfl⟩
theorem flL_22 : am_Fl "FrameForge$Ledger" 22 4 3 := ⟨am_R4, am_F4, 8, rfl, by decide, am_w4, wd_in 251 (by decide +kernel) rfl, am_ty4, am_nm4⟩
theorem fpL_22 : am_Fp "FrameForge$Ledger" 22 4 3 := ⟨flL_22, am_R4, am_F4, 8, rfl, rfl⟩
theorem flL_25 : am_Fl "FrameForge$Ledger" 25 4 4 := ⟨am_R4, am_F4, 8, rfl, by decide, am_w4, wd_in 254 (by decide +kernel) rfl, am_ty4, am_nm4⟩
theorem fpL_25 : am_Fp "FrameForge$Ledger" 25 4 4 := ⟨flL_25, am_R4, am_F4, 8, rfl, rfl⟩
theorem flL_28 : am_Fl "FrameForge$Ledger" 28 4 5 := ⟨am_R4, am_F4, 8, rfl, by decide, am_w4, wd_in 257 (by decide +kernel) rfl, am_ty4, am_nm4⟩
theorem fpL_28 : am_Fp "FrameForge$Ledger" 28 4 5 := ⟨flL_28, am_R4, am_F4, 8, rfl, rfl⟩
theorem flL_31 : am_Fl "FrameForge$Ledger" 31 4 6 := ⟨am_R4, am_F4, 8, rfl, by decide, am_w4, wd_in 260 (by decide +kernel) rfl, am_ty4, am_nm4⟩
theorem fpL_31 : am_Fp "FrameForge$Ledger" 31 4 6 := ⟨flL_31, am_R4, am_F4, 8, rfl, rfl⟩
theorem flL_34 : am_Fl "FrameForge$Ledger" 34 4 7 := ⟨am_R4, am_F4, 8, rfl, by decide, am_w4, wd_in 262 (by decide +kernel) rfl, am_ty4, am_nm4⟩
theorem fpL_34 : am_Fp "FrameForge$Ledger" 34 4 7 := ⟨flL_34, am_R4, am_F4, 8, rfl, rfl⟩
theorem flM_11 : am_Fl "FrameForge$Machine" 11 6 0 := ⟨am_R6, am_F6, 9, rfl, by decide, am_w6, wd_in 188 (by decide +kernel) rfl, am_ty6, am_nm6⟩
theorem ffM_11 : am_Ff "FrameForge$Machine" 11 6 0 := ⟨flM_11, am_R6, am_F6, 9, rfl, rfl, rfl⟩
theorem flM_17 : am_Fl "FrameForge$Machine" 17 6 1 := ⟨am_R6, am_F6, 9, rfl, by decide, am_w6, wd_in 189 (by decide +kernel) rfl, am_ty6, am_nm6⟩
theorem ffM_17 : am_Ff "FrameForge$Machine" 17 6 1 := ⟨flM_17, am_R6, am_F6, 9, rfl, rfl, rfl⟩
theorem flM_21 : am_Fl "FrameForge$Machine" 21 6 2 := ⟨am_R6, am_F6, 9, rfl, by decide, am_w6, wd_in 190 (by decide +kernel) rfl, am_ty6, am_nm6⟩
theorem ffM_21 : am_Ff "FrameForge$Machine" 21 6 2 := ⟨flM_21, am_R6, am_F6, 9, rfl, rfl, rfl⟩
theorem flM_24 : am_Fl "FrameForge$Machine" 24 6 3 := ⟨am_R6, am_F6, 9, rfl, by decide, am_w6, wd_in 191 (by decide +kernel) rfl, am_ty6, am_nm6⟩
theorem ffM_24 : am_Ff "FrameForge$Machine" 24 6 3 := ⟨flM_24, am_R6, am_F6, 9, rfl, rfl, rfl⟩
theorem flM_28 : am_Fl "FrameForge$Machine" 28 6 4 := ⟨am_R6, am_F6, 9, rfl, by decide, am_w6, wd_in 192 (by decide +kernel) rfl, am_ty6, am_nm6⟩
theorem fpM_28 : am_Fp "FrameForge$Machine" 28 6 4 := ⟨flM_28, am_R6, am_F6, 9, rfl, rfl⟩
theorem flM_32 : am_Fl "FrameForge$Machine" 32 6 5 := ⟨am_R6, am_F6, 9, rfl, by decide, am_w6, wd_in 193 (by decide +kernel) rfl, am_ty6, am_nm6⟩
theorem fpM_32 : am_Fp "FrameForge$Machine" 32 6 5 := ⟨flM_32, am_R6, am_F6, 9, rfl, rfl⟩
theorem flM_41 : am_Fl "FrameForge$Machine" 41 6 6 := ⟨am_R6, am_F6, 9, rfl, by decide, am_w6, wd_in 194 (by decide +kernel) rfl, am_ty6, am_nm6⟩
theorem fpM_41 : am_Fp "FrameForge$Machine" 41 6 6 := ⟨flM_41, am_R6, am_F6, 9, rfl, rfl⟩
theorem flM_45 : am_Fl "FrameForge$Machine" 45 6 7 := ⟨am_R6, am_F6, 9, rfl, by decide, am_w6, wd_in 195 (by decide +kernel) rfl, am_ty6, am_nm6⟩
theorem fpM_45 : am_Fp "FrameForge$Machine" 45 6 7 := ⟨flM_45, am_R6, am_F6, 9, rfl, rfl⟩
theorem flM_48 : am_Fl "FrameForge$Machine" 48 6 8 := ⟨am_R6, am_F6, 9, rfl, by decide, am_w6, wd_in 196 (by decide +kernel) rfl, am_ty6, am_nm6⟩
theorem fpM_48 : am_Fp "FrameForge$Machine" 48 6 8 := ⟨flM_48, am_R6, am_F6, 9, rfl, rfl⟩
theorem flM_55 : am_Fl "FrameForge$Machine" 55 5 0 := ⟨am_R5, am_F5, 7, rfl, by decide, am_w5, wd_in 162 (by decide +kernel) rfl, am_ty5, am_nm5⟩
theorem flM_58 : am_Fl "FrameForge$Machine" 58 4 1 := ⟨am_R4, am_F4, 8, rfl, by decide, am_w4, wd_in 246 (by decide +kernel) rfl, am_ty4, am_nm4⟩
theorem fpM_58 : am_Fp "FrameForge$Machine" 58 4 1 := ⟨flM_58, am_R4, am_F4, 8, rfl, rfl⟩
theorem flM_61 : am_Fl "FrameForge$Machine" 61 4 3 := ⟨am_R4, am_F4, 8, rfl, by decide, am_w4, wd_in 252 (by decide +kernel) rfl, am_ty4, am_nm4⟩
theorem fpM_61 : am_Fp "FrameForge$Machine" 61 4 3 := ⟨flM_61, am_R4, am_F4, 8, rfl, rfl⟩
theorem flM_71 : am_Fl "FrameForge$Machine" 71 4 5 := ⟨am_R4, am_F4, 8, rfl, by decide, am_w4, wd_in 258 (by decide +kernel) rfl, am_ty4, am_nm4⟩
theorem fpM_71 : am_Fp "FrameForge$Machine" 71 4 5 := ⟨flM_71, am_R4, am_F4, 8, rfl, rfl⟩
theorem flM_84 : am_Fl "FrameForge$Machine" 84 2 0 := ⟨am_R2, am_F2, 1, rfl, by decide, am_w2, wd_in 103 (by decide +kernel) rfl, am_ty2, am_nm2⟩
theorem flM_90 : am_Fl "FrameForge$Machine" 90 1 10 := ⟨am_R1, am_F1, 11, rfl, by decide, am_w1, wd_in 74 (by decide +kernel) rfl, am_ty1, am_nm1⟩
theorem flM_99 : am_Fl "FrameForge$Machine" 99 5 5 := ⟨am_R5, am_F5, 7, rfl, by decide, am_w5, wd_in 170 (by decide +kernel) rfl, am_ty5, am_nm5⟩
theorem flM_102 : am_Fl "FrameForge$Machine" 102 5 4 := ⟨am_R5, am_F5, 7, rfl, by decide, am_w5, wd_in 168 (by decide +kernel) rfl, am_ty5, am_nm5⟩
theorem fpM_102 : am_Fp "FrameForge$Machine" 102 5 4 := ⟨flM_102, am_R5, am_F5, 7, rfl, rfl⟩
theorem flM_105 : am_Fl "FrameForge$Machine" 105 5 3 := ⟨am_R5, am_F5, 7, rfl, by decide, am_w5, wd_in 166 (by decide +kernel) rfl, am_ty5, am_nm5⟩
theorem fpM_105 : am_Fp "FrameForge$Machine" 105 5 3 := ⟨flM_105, am_R5, am_F5, 7, rfl, rfl⟩
theorem flM_108 : am_Fl "FrameForge$Machine" 108 1 1 := ⟨am_R1, am_F1, 11, rfl, by decide, am_w1, wd_in 41 (by decide +kernel) rfl, am_ty1, am_nm1⟩
theorem flM_111 : am_Fl "FrameForge$Machine" 111 1 2 := ⟨am_R1, am_F1, 11, rfl, by decide, am_w1, wd_in 46 (by decide +kernel) rfl, am_ty1, am_nm1⟩
theorem flM_114 : am_Fl "FrameForge$Machine" 114 1 0 := ⟨am_R1, am_F1, 11, rfl, by decide, am_w1, wd_in 36 (by decide +kernel) rfl, am_ty1, am_nm1⟩
theorem flM_173 : am_Fl "FrameForge$Machine" 173 5 6 := ⟨am_R5, am_F5, 7, rfl, by decide, am_w5, wd_in 172 (by decide +kernel) rfl, am_ty5, am_nm5⟩
theorem flM_182 : am_Fl "FrameForge$Machine" 182 4 4 := ⟨am_R4, am_F4, 8, rfl, by decide, am_w4, wd_in 256 (by decide +kernel) rfl, am_ty4, am_nm4⟩
theorem fpM_182 : am_Fp "FrameForge$Machine" 182 4 4 := ⟨flM_182, am_R4, am_F4, 8, rfl, rfl⟩
theorem flM_185 : am_Fl "FrameForge$Machine" 185 1 9 := ⟨am_R1, am_F1, 11, rfl, by decide, am_w1, wd_in 72 (by decide +kernel) rfl, am_ty1, am_nm1⟩
theorem flM_188 : am_Fl "FrameForge$Machine" 188 4 2 := ⟨am_R4, am_F4, 8, rfl, by decide, am_w4, wd_in 250 (by decide +kernel) rfl, am_ty4, am_nm4⟩
theorem fpM_188 : am_Fp "FrameForge$Machine" 188 4 2 := ⟨flM_188, am_R4, am_F4, 8, rfl, rfl⟩
theorem flM_194 : am_Fl "FrameForge$Machine" 194 1 5 := ⟨am_R1, am_F1, 11, rfl, by decide, am_w1, wd_in 56 (by decide +kernel) rfl, am_ty1, am_nm1⟩
theorem flM_200 : am_Fl "FrameForge$Machine" 200 4 7 := ⟨am_R4, am_F4, 8, rfl, by decide, am_w4, wd_in 264 (by decide +kernel) rfl, am_ty4, am_nm4⟩
theorem fpM_200 : am_Fp "FrameForge$Machine" 200 4 7 := ⟨flM_200, am_R4, am_F4, 8, rfl, rfl⟩
theorem flE_9 : am_Fl "FrameForge$Method" 9 1 0 := ⟨am_R1, am_F1, 11, rfl, by decide, am_w1, wd_in 34 (by decide +kernel) rfl, am_ty1, am_nm1⟩
theorem ffE_9 : am_Ff "FrameForge$Method" 9 1 0 := ⟨flE_9, am_R1, am_F1, 11, rfl, rfl, rfl⟩
theorem flE_15 : am_Fl "FrameForge$Method" 15 1 1 := ⟨am_R1, am_F1, 11, rfl, by decide, am_w1, wd_in 39 (by decide +kernel) rfl, am_ty1, am_nm1⟩
theorem ffE_15 : am_Ff "FrameForge$Method" 15 1 1 := ⟨flE_15, am_R1, am_F1, 11, rfl, rfl, rfl⟩
theorem flE_18 : am_Fl "FrameForge$Method" 18 1 2 := ⟨am_R1, am_F1, 11, rfl, by decide, am_w1, wd_in 44 (by decide +kernel) rfl, am_ty1, am_nm1⟩
theorem ffE_18 : am_Ff "FrameForge$Method" 18 1 2 := ⟨flE_18, am_R1, am_F1, 11, rfl, rfl, rfl⟩
theorem flE_21 : am_Fl "FrameForge$Method" 21 1 3 := ⟨am_R1, am_F1, 11, rfl, by decide, am_w1, wd_in 49 (by decide +kernel) rfl, am_ty1, am_nm1⟩
theorem ffE_21 : am_Ff "FrameForge$Method" 21 1 3 := ⟨flE_21, am_R1, am_F1, 11, rfl, rfl, rfl⟩
theorem flE_24 : am_Fl "FrameForge$Method" 24 1 4 := ⟨am_R1, am_F1, 11, rfl, by decide, am_w1, wd_in 51 (by decide +kernel) rfl, am_ty1, am_nm1⟩
theorem ffE_24 : am_Ff "FrameForge$Method" 24 1 4 := ⟨flE_24, am_R1, am_F1, 11, rfl, rfl, rfl⟩
theorem flE_27 : am_Fl "FrameForge$Method" 27 1 5 := ⟨am_R1, am_F1, 11, rfl, by decide, am_w1, wd_in 53 (by decide +kernel) rfl, am_ty1, am_nm1⟩
theorem ffE_27 : am_Ff "FrameForge$Method" 27 1 5 := ⟨flE_27, am_R1, am_F1, 11, rfl, rfl, rfl⟩
theorem flE_30 : am_Fl "FrameForge$Method" 30 1 6 := ⟨am_R1, am_F1, 11, rfl, by decide, am_w1, wd_in 57 (by decide +kernel) rfl, am_ty1, am_nm1⟩
theorem ffE_30 : am_Ff "FrameForge$Method" 30 1 6 := ⟨flE_30, am_R1, am_F1, 11, rfl, rfl, rfl⟩
theorem flE_33 : am_Fl "FrameForge$Method" 33 1 7 := ⟨am_R1, am_F1, 11, rfl, by decide, am_w1, wd_in 59 (by decide +kernel) rfl, am_ty1, am_nm1⟩
theorem fpE_33 : am_Fp "FrameForge$Method" 33 1 7 := ⟨flE_33, am_R1, am_F1, 11, rfl, rfl⟩
theorem flE_37 : am_Fl "FrameForge$Method" 37 1 8 := ⟨am_R1, am_F1, 11, rfl, by decide, am_w1, wd_in 64 (by decide +kernel) rfl, am_ty1, am_nm1⟩
theorem fpE_37 : am_Fp "FrameForge$Method" 37 1 8 := ⟨flE_37, am_R1, am_F1, 11, rfl, rfl⟩
theorem flE_40 : am_Fl "FrameForge$Method" 40 1 9 := ⟨am_R1, am_F1, 11, rfl, by decide, am_w1, wd_in 68 (by decide +kernel) rfl, am_ty1, am_nm1⟩
theorem fpE_40 : am_Fp "FrameForge$Method" 40 1 9 := ⟨flE_40, am_R1, am_F1, 11, rfl, rfl⟩
theorem flE_43 : am_Fl "FrameForge$Method" 43 1 10 := ⟨am_R1, am_F1, 11, rfl, by decide, am_w1, wd_in 73 (by decide +kernel) rfl, am_ty1, am_nm1⟩
theorem fpE_43 : am_Fp "FrameForge$Method" 43 1 10 := ⟨flE_43, am_R1, am_F1, 11, rfl, rfl⟩
theorem flP_11 : am_Fl "FrameForge$Program" 11 2 0 := ⟨am_R2, am_F2, 1, rfl, by decide, am_w2, wd_in 101 (by decide +kernel) rfl, am_ty2, am_nm2⟩
theorem ffP_11 : am_Ff "FrameForge$Program" 11 2 0 := ⟨flP_11, am_R2, am_F2, 1, rfl, rfl, rfl⟩
theorem flP_22 : am_Fl "FrameForge$Program" 22 1 7 := ⟨am_R1, am_F1, 11, rfl, by decide, am_w1, wd_in 61 (by decide +kernel) rfl, am_ty1, am_nm1⟩
theorem flW_12 : am_Fl "FrameForge$Rewriter" 12 7 0 := ⟨am_R7, am_F7, 4, rfl, by decide, am_w7, wd_in 224 (by decide +kernel) rfl, am_ty7, am_nm7⟩
theorem ffW_12 : am_Ff "FrameForge$Rewriter" 12 7 0 := ⟨flW_12, am_R7, am_F7, 4, rfl, rfl, rfl⟩
theorem flW_22 : am_Fl "FrameForge$Rewriter" 22 1 2 := ⟨am_R1, am_F1, 11, rfl, by decide, am_w1, wd_in 45 (by decide +kernel) rfl, am_ty1, am_nm1⟩
theorem flW_34 : am_Fl "FrameForge$Rewriter" 34 7 3 := ⟨am_R7, am_F7, 4, rfl, by decide, am_w7, wd_in 227 (by decide +kernel) rfl, am_ty7, am_nm7⟩
theorem fpW_34 : am_Fp "FrameForge$Rewriter" 34 7 3 := ⟨flW_34, am_R7, am_F7, 4, rfl, rfl⟩
theorem flW_38 : am_Fl "FrameForge$Rewriter" 38 1 0 := ⟨am_R1, am_F1, 11, rfl, by decide, am_w1, wd_in 35 (by decide +kernel) rfl, am_ty1, am_nm1⟩
theorem flW_45 : am_Fl "FrameForge$Rewriter" 45 1 1 := ⟨am_R1, am_F1, 11, rfl, by decide, am_w1, wd_in 40 (by decide +kernel) rfl, am_ty1, am_nm1⟩
theorem flW_52 : am_Fl "FrameForge$Rewriter" 52 1 8 := ⟨am_R1, am_F1, 11, rfl, by decide, am_w1, wd_in 65 (by decide +kernel) rfl, am_ty1, am_nm1⟩
theorem flW_64 : am_Fl "FrameForge$Rewriter" 64 1 9 := ⟨am_R1, am_F1, 11, rfl, by decide, am_w1, wd_in 69 (by decide +kernel) rfl, am_ty1, am_nm1⟩
theorem flW_67 : am_Fl "FrameForge$Rewriter" 67 1 7 := ⟨am_R1, am_F1, 11, rfl, by decide, am_w1, wd_in 60 (by decide +kernel) rfl, am_ty1, am_nm1⟩
theorem fpW_67 : am_Fp "FrameForge$Rewriter" 67 1 7 := ⟨flW_67, am_R1, am_F1, 11, rfl, rfl⟩
theorem flW_77 : am_Fl "FrameForge$Rewriter" 77 1 4 := ⟨am_R1, am_F1, 11, rfl, by decide, am_w1, wd_in 52 (by decide +kernel) rfl, am_ty1, am_nm1⟩
theorem flW_86 : am_Fl "FrameForge$Rewriter" 86 1 3 := ⟨am_R1, am_F1, 11, rfl, by decide, am_w1, wd_in 50 (by decide +kernel) rfl, am_ty1, am_nm1⟩
theorem flW_89 : am_Fl "FrameForge$Rewriter" 89 1 5 := ⟨am_R1, am_F1, 11, rfl, by decide, am_w1, wd_in 54 (by decide +kernel) rfl, am_ty1, am_nm1⟩
theorem flW_92 : am_Fl "FrameForge$Rewriter" 92 1 6 := ⟨am_R1, am_F1, 11, rfl, by decide, am_w1, wd_in 58 (by decide +kernel) rfl, am_ty1, am_nm1⟩
theorem flW_101 : am_Fl "FrameForge$Rewriter" 101 7 1 := ⟨am_R7, am_F7, 4, rfl, by decide, am_w7, wd_in 225 (by decide +kernel) rfl, am_ty7, am_nm7⟩
theorem fpW_101 : am_Fp "FrameForge$Rewriter" 101 7 1 := ⟨flW_101, am_R7, am_F7, 4, rfl, rfl⟩
theorem flW_104 : am_Fl "FrameForge$Rewriter" 104 7 2 := ⟨am_R7, am_F7, 4, rfl, by decide, am_w7, wd_in 226 (by decide +kernel) rfl, am_ty7, am_nm7⟩
theorem fpW_104 : am_Fp "FrameForge$Rewriter" 104 7 2 := ⟨flW_104, am_R7, am_F7, 4, rfl, rfl⟩
theorem flW_107 : am_Fl "FrameForge$Rewriter" 107 1 10 := ⟨am_R1, am_F1, 11, rfl, by decide, am_w1, wd_in 75 (by decide +kernel) rfl, am_ty1, am_nm1⟩
theorem flR_7 : am_Fl "FrameForgeModel" 7 8 0 := ⟨am_R8, am_F8, 52, rfl, by decide, am_w8, wd_in 717 (by decide +kernel) rfl, am_ty8, am_nm8⟩
theorem ffR_7 : am_Ff "FrameForgeModel" 7 8 0 := ⟨flR_7, am_R8, am_F8, 52, rfl, rfl, rfl⟩
theorem flR_13 : am_Fl "FrameForgeModel" 13 8 1 := ⟨am_R8, am_F8, 52, rfl, by decide, am_w8, wd_in 718 (by decide +kernel) rfl, am_ty8, am_nm8⟩
theorem ffR_13 : am_Ff "FrameForgeModel" 13 8 1 := ⟨flR_13, am_R8, am_F8, 52, rfl, rfl, rfl⟩
theorem flR_16 : am_Fl "FrameForgeModel" 16 8 2 := ⟨am_R8, am_F8, 52, rfl, by decide, am_w8, wd_in 719 (by decide +kernel) rfl, am_ty8, am_nm8⟩
theorem ffR_16 : am_Ff "FrameForgeModel" 16 8 2 := ⟨flR_16, am_R8, am_F8, 52, rfl, rfl, rfl⟩
theorem flR_19 : am_Fl "FrameForgeModel" 19 8 3 := ⟨am_R8, am_F8, 52, rfl, by decide, am_w8, wd_in 720 (by decide +kernel) rfl, am_ty8, am_nm8⟩
theorem ffR_19 : am_Ff "FrameForgeModel" 19 8 3 := ⟨flR_19, am_R8, am_F8, 52, rfl, rfl, rfl⟩
theorem flR_22 : am_Fl "FrameForgeModel" 22 8 4 := ⟨am_R8, am_F8, 52, rfl, by decide, am_w8, wd_in 721 (by decide +kernel) rfl, am_ty8, am_nm8⟩
theorem ffR_22 : am_Ff "FrameForgeModel" 22 8 4 := ⟨flR_22, am_R8, am_F8, 52, rfl, rfl, rfl⟩
theorem flR_25 : am_Fl "FrameForgeModel" 25 8 5 := ⟨am_R8, am_F8, 52, rfl, by decide, am_w8, wd_in 722 (by decide +kernel) rfl, am_ty8, am_nm8⟩
theorem ffR_25 : am_Ff "FrameForgeModel" 25 8 5 := ⟨flR_25, am_R8, am_F8, 52, rfl, rfl, rfl⟩
theorem flR_28 : am_Fl "FrameForgeModel" 28 8 6 := ⟨am_R8, am_F8, 52, rfl, by decide, am_w8, wd_in 723 (by decide +kernel) rfl, am_ty8, am_nm8⟩
theorem ffR_28 : am_Ff "FrameForgeModel" 28 8 6 := ⟨flR_28, am_R8, am_F8, 52, rfl, rfl, rfl⟩
theorem flR_31 : am_Fl "FrameForgeModel" 31 8 7 := ⟨am_R8, am_F8, 52, rfl, by decide, am_w8, wd_in 724 (by decide +kernel) rfl, am_ty8, am_nm8⟩
theorem ffR_31 : am_Ff "FrameForgeModel" 31 8 7 := ⟨flR_31, am_R8, am_F8, 52, rfl, rfl, rfl⟩
theorem flR_34 : am_Fl "FrameForgeModel" 34 8 8 := ⟨am_R8, am_F8, 52, rfl, by decide, am_w8, wd_in 725 (by decide +kernel) rfl, am_ty8, am_nm8⟩
theorem ffR_34 : am_Ff "FrameForgeModel" 34 8 8 := ⟨flR_34, am_R8, am_F8, 52, rfl, rfl, rfl⟩
theorem flR_37 : am_Fl "FrameForgeModel" 37 8 9 := ⟨am_R8, am_F8, 52, rfl, by decide, am_w8, wd_in 726 (by decide +kernel) rfl, am_ty8, am_nm8⟩
theorem ffR_37 : am_Ff "FrameForgeModel" 37 8 9 := ⟨flR_37, am_R8, am_F8, 52, rfl, rfl, rfl⟩
theorem flR_40 : am_Fl "FrameForgeModel" 40 8 10 := ⟨am_R8, am_F8, 52, rfl, by decide, am_w8, wd_in 727 (by decide +kernel) rfl, am_ty8, am_nm8⟩
theorem ffR_40 : am_Ff "FrameForgeModel" 40 8 10 := ⟨flR_40, am_R8, am_F8, 52, rfl, rfl, rfl⟩
theorem flR_44 : am_Fl "FrameForgeModel" 44 8 12 := ⟨am_R8, am_F8, 52, rfl, by decide, am_w8, wd_in 729 (by decide +kernel) rfl, am_ty8, am_nm8⟩
theorem ffR_44 : am_Ff "FrameForgeModel" 44 8 12 := ⟨flR_44, am_R8, am_F8, 52, rfl, rfl, rfl⟩
theorem flR_47 : am_Fl "FrameForgeModel" 47 8 13 := ⟨am_R8, am_F8, 52, rfl, by decide, am_w8, wd_in 730 (by decide +kernel) rfl, am_ty8, am_nm8⟩
theorem ffR_47 : am_Ff "FrameForgeModel" 47 8 13 := ⟨flR_47, am_R8, am_F8, 52, rfl, rfl, rfl⟩
theorem flR_50 : am_Fl "FrameForgeModel" 50 8 14 := ⟨am_R8, am_F8, 52, rfl, by decide, am_w8, wd_in 731 (by decide +kernel) rfl, am_ty8, am_nm8⟩
theorem ffR_50 : am_Ff "FrameForgeModel" 50 8 14 := ⟨flR_50, am_R8, am_F8, 52, rfl, rfl, rfl⟩
theorem flR_53 : am_Fl "FrameForgeModel" 53 8 15 := ⟨am_R8, am_F8, 52, rfl, by decide, am_w8, wd_in 732 (by decide +kernel) rfl, am_ty8, am_nm8⟩
theorem ffR_53 : am_Ff "FrameForgeModel" 53 8 15 := ⟨flR_53, am_R8, am_F8, 52, rfl, rfl, rfl⟩
theorem flR_56 : am_Fl "FrameForgeModel" 56 8 16 := ⟨am_R8, am_F8, 52, rfl, by decide, am_w8, wd_in 733 (by decide +kernel) rfl, am_ty8, am_nm8⟩
theorem ffR_56 : am_Ff "FrameForgeModel" 56 8 16 := ⟨flR_56, am_R8, am_F8, 52, rfl, rfl, rfl⟩
theorem flR_59 : am_Fl "FrameForgeModel" 59 8 17 := ⟨am_R8, am_F8, 52, rfl, by decide, am_w8, wd_in 734 (by decide +kernel) rfl, am_ty8, am_nm8⟩
theorem ffR_59 : am_Ff "FrameForgeModel" 59 8 17 := ⟨flR_59, am_R8, am_F8, 52, rfl, rfl, rfl⟩
theorem flR_62 : am_Fl "FrameForgeModel" 62 8 22 := ⟨am_R8, am_F8, 52, rfl, by decide, am_w8, wd_in 738 (by decide +kernel) rfl, am_ty8, am_nm8⟩
theorem ffR_62 : am_Ff "FrameForgeModel" 62 8 22 := ⟨flR_62, am_R8, am_F8, 52, rfl, rfl, rfl⟩
theorem flR_65 : am_Fl "FrameForgeModel" 65 8 23 := ⟨am_R8, am_F8, 52, rfl, by decide, am_w8, wd_in 739 (by decide +kernel) rfl, am_ty8, am_nm8⟩
theorem ffR_65 : am_Ff "FrameForgeModel" 65 8 23 := ⟨flR_65, am_R8, am_F8, 52, rfl, rfl, rfl⟩
theorem flR_68 : am_Fl "FrameForgeModel" 68 8 24 := ⟨am_R8, am_F8, 52, rfl, by decide, am_w8, wd_in 740 (by decide +kernel) rfl, am_ty8, am_nm8⟩
theorem ffR_68 : am_Ff "FrameForgeModel" 68 8 24 := ⟨flR_68, am_R8, am_F8, 52, rfl, rfl, rfl⟩
theorem flR_71 : am_Fl "FrameForgeModel" 71 8 25 := ⟨am_R8, am_F8, 52, rfl, by decide, am_w8, wd_in 741 (by decide +kernel) rfl, am_ty8, am_nm8⟩
theorem ffR_71 : am_Ff "FrameForgeModel" 71 8 25 := ⟨flR_71, am_R8, am_F8, 52, rfl, rfl, rfl⟩
theorem flR_74 : am_Fl "FrameForgeModel" 74 8 26 := ⟨am_R8, am_F8, 52, rfl, by decide, am_w8, wd_in 742 (by decide +kernel) rfl, am_ty8, am_nm8⟩
theorem ffR_74 : am_Ff "FrameForgeModel" 74 8 26 := ⟨flR_74, am_R8, am_F8, 52, rfl, rfl, rfl⟩
theorem flR_77 : am_Fl "FrameForgeModel" 77 8 27 := ⟨am_R8, am_F8, 52, rfl, by decide, am_w8, wd_in 743 (by decide +kernel) rfl, am_ty8, am_nm8⟩
theorem ffR_77 : am_Ff "FrameForgeModel" 77 8 27 := ⟨flR_77, am_R8, am_F8, 52, rfl, rfl, rfl⟩
theorem flR_80 : am_Fl "FrameForgeModel" 80 8 28 := ⟨am_R8, am_F8, 52, rfl, by decide, am_w8, wd_in 744 (by decide +kernel) rfl, am_ty8, am_nm8⟩
theorem ffR_80 : am_Ff "FrameForgeModel" 80 8 28 := ⟨flR_80, am_R8, am_F8, 52, rfl, rfl, rfl⟩
theorem flR_83 : am_Fl "FrameForgeModel" 83 8 29 := ⟨am_R8, am_F8, 52, rfl, by decide, am_w8, wd_in 745 (by decide +kernel) rfl, am_ty8, am_nm8⟩
theorem ffR_83 : am_Ff "FrameForgeModel" 83 8 29 := ⟨flR_83, am_R8, am_F8, 52, rfl, rfl, rfl⟩
theorem flR_86 : am_Fl "FrameForgeModel" 86 8 30 := ⟨am_R8, am_F8, 52, rfl, by decide, am_w8, wd_in 746 (by decide +kernel) rfl, am_ty8, am_nm8⟩
theorem ffR_86 : am_Ff "FrameForgeModel" 86 8 30 := ⟨flR_86, am_R8, am_F8, 52, rfl, rfl, rfl⟩
theorem flR_89 : am_Fl "FrameForgeModel" 89 8 31 := ⟨am_R8, am_F8, 52, rfl, by decide, am_w8, wd_in 747 (by decide +kernel) rfl, am_ty8, am_nm8⟩
theorem ffR_89 : am_Ff "FrameForgeModel" 89 8 31 := ⟨flR_89, am_R8, am_F8, 52, rfl, rfl, rfl⟩
theorem flR_92 : am_Fl "FrameForgeModel" 92 8 32 := ⟨am_R8, am_F8, 52, rfl, by decide, am_w8, wd_in 748 (by decide +kernel) rfl, am_ty8, am_nm8⟩
theorem ffR_92 : am_Ff "FrameForgeModel" 92 8 32 := ⟨flR_92, am_R8, am_F8, 52, rfl, rfl, rfl⟩
theorem flR_95 : am_Fl "FrameForgeModel" 95 8 33 := ⟨am_R8, am_F8, 52, rfl, by decide, am_w8, wd_in 749 (by decide +kernel) rfl, am_ty8, am_nm8⟩
theorem ffR_95 : am_Ff "FrameForgeModel" 95 8 33 := ⟨flR_95, am_R8, am_F8, 52, rfl, rfl, rfl⟩
theorem flR_98 : am_Fl "FrameForgeModel" 98 8 44 := ⟨am_R8, am_F8, 52, rfl, by decide, am_w8, wd_in 760 (by decide +kernel) rfl, am_ty8, am_nm8⟩
theorem ffR_98 : am_Ff "FrameForgeModel" 98 8 44 := ⟨flR_98, am_R8, am_F8, 52, rfl, rfl, rfl⟩
theorem flR_101 : am_Fl "FrameForgeModel" 101 8 45 := ⟨am_R8, am_F8, 52, rfl, by decide, am_w8, wd_in 761 (by decide +kernel) rfl, am_ty8, am_nm8⟩
theorem ffR_101 : am_Ff "FrameForgeModel" 101 8 45 := ⟨flR_101, am_R8, am_F8, 52, rfl, rfl, rfl⟩
theorem flR_104 : am_Fl "FrameForgeModel" 104 8 46 := ⟨am_R8, am_F8, 52, rfl, by decide, am_w8, wd_in 762 (by decide +kernel) rfl, am_ty8, am_nm8⟩
theorem ffR_104 : am_Ff "FrameForgeModel" 104 8 46 := ⟨flR_104, am_R8, am_F8, 52, rfl, rfl, rfl⟩
theorem flR_107 : am_Fl "FrameForgeModel" 107 8 47 := ⟨am_R8, am_F8, 52, rfl, by decide, am_w8, wd_in 763 (by decide +kernel) rfl, am_ty8, am_nm8⟩
theorem ffR_107 : am_Ff "FrameForgeModel" 107 8 47 := ⟨flR_107, am_R8, am_F8, 52, rfl, rfl, rfl⟩
theorem flR_110 : am_Fl "FrameForgeModel" 110 8 48 := ⟨am_R8, am_F8, 52, rfl, by decide, am_w8, wd_in 764 (by decide +kernel) rfl, am_ty8, am_nm8⟩
theorem ffR_110 : am_Ff "FrameForgeModel" 110 8 48 := ⟨flR_110, am_R8, am_F8, 52, rfl, rfl, rfl⟩
theorem flR_113 : am_Fl "FrameForgeModel" 113 8 49 := ⟨am_R8, am_F8, 52, rfl, by decide, am_w8, wd_in 765 (by decide +kernel) rfl, am_ty8, am_nm8⟩
theorem ffR_113 : am_Ff "FrameForgeModel" 113 8 49 := ⟨flR_113, am_R8, am_F8, 52, rfl, rfl, rfl⟩
theorem flR_116 : am_Fl "FrameForgeModel" 116 8 50 := ⟨am_R8, am_F8, 52, rfl, by decide, am_w8, wd_in 766 (by decide +kernel) rfl, am_ty8, am_nm8⟩
theorem ffR_116 : am_Ff "FrameForgeModel" 116 8 50 := ⟨flR_116, am_R8, am_F8, 52, rfl, rfl, rfl⟩
theorem flR_119 : am_Fl "FrameForgeModel" 119 8 11 := ⟨am_R8, am_F8, 52, rfl, by decide, am_w8, wd_in 728 (by decide +kernel) rfl, am_ty8, am_nm8⟩
theorem fpR_119 : am_Fp "FrameForgeModel" 119 8 11 := ⟨flR_119, am_R8, am_F8, 52, rfl, rfl⟩
theorem flR_152 : am_Fl "FrameForgeModel" 152 8 18 := ⟨am_R8, am_F8, 52, rfl, by decide, am_w8, wd_in 735 (by decide +kernel) rfl, am_ty8, am_nm8⟩
theorem fpR_152 : am_Fp "FrameForgeModel" 152 8 18 := ⟨flR_152, am_R8, am_F8, 52, rfl, rfl⟩
theorem flR_155 : am_Fl "FrameForgeModel" 155 8 20 := ⟨am_R8, am_F8, 52, rfl, by decide, am_w8, wd_in 736 (by decide +kernel) rfl, am_ty8, am_nm8⟩
theorem fpR_155 : am_Fp "FrameForgeModel" 155 8 20 := ⟨flR_155, am_R8, am_F8, 52, rfl, rfl⟩
theorem flR_159 : am_Fl "FrameForgeModel" 159 8 21 := ⟨am_R8, am_F8, 52, rfl, by decide, am_w8, wd_in 737 (by decide +kernel) rfl, am_ty8, am_nm8⟩
theorem fpR_159 : am_Fp "FrameForgeModel" 159 8 21 := ⟨flR_159, am_R8, am_F8, 52, rfl, rfl⟩
theorem flR_191 : am_Fl "FrameForgeModel" 191 8 39 := ⟨am_R8, am_F8, 52, rfl, by decide, am_w8, wd_in 755 (by decide +kernel) rfl, am_ty8, am_nm8⟩
theorem fpR_191 : am_Fp "FrameForgeModel" 191 8 39 := ⟨flR_191, am_R8, am_F8, 52, rfl, rfl⟩
theorem flR_194 : am_Fl "FrameForgeModel" 194 8 34 := ⟨am_R8, am_F8, 52, rfl, by decide, am_w8, wd_in 750 (by decide +kernel) rfl, am_ty8, am_nm8⟩
theorem fpR_194 : am_Fp "FrameForgeModel" 194 8 34 := ⟨flR_194, am_R8, am_F8, 52, rfl, rfl⟩
theorem flR_200 : am_Fl "FrameForgeModel" 200 8 36 := ⟨am_R8, am_F8, 52, rfl, by decide, am_w8, wd_in 752 (by decide +kernel) rfl, am_ty8, am_nm8⟩
theorem fpR_200 : am_Fp "FrameForgeModel" 200 8 36 := ⟨flR_200, am_R8, am_F8, 52, rfl, rfl⟩
theorem flR_203 : am_Fl "FrameForgeModel" 203 8 35 := ⟨am_R8, am_F8, 52, rfl, by decide, am_w8, wd_in 751 (by decide +kernel) rfl, am_ty8, am_nm8⟩
theorem fpR_203 : am_Fp "FrameForgeModel" 203 8 35 := ⟨flR_203, am_R8, am_F8, 52, rfl, rfl⟩
theorem flR_206 : am_Fl "FrameForgeModel" 206 8 37 := ⟨am_R8, am_F8, 52, rfl, by decide, am_w8, wd_in 753 (by decide +kernel) rfl, am_ty8, am_nm8⟩
theorem fpR_206 : am_Fp "FrameForgeModel" 206 8 37 := ⟨flR_206, am_R8, am_F8, 52, rfl, rfl⟩
theorem flR_216 : am_Fl "FrameForgeModel" 216 8 40 := ⟨am_R8, am_F8, 52, rfl, by decide, am_w8, wd_in 756 (by decide +kernel) rfl, am_ty8, am_nm8⟩
theorem fpR_216 : am_Fp "FrameForgeModel" 216 8 40 := ⟨flR_216, am_R8, am_F8, 52, rfl, rfl⟩
theorem flR_222 : am_Fl "FrameForgeModel" 222 8 43 := ⟨am_R8, am_F8, 52, rfl, by decide, am_w8, wd_in 759 (by decide +kernel) rfl, am_ty8, am_nm8⟩
theorem fpR_222 : am_Fp "FrameForgeModel" 222 8 43 := ⟨flR_222, am_R8, am_F8, 52, rfl, rfl⟩
theorem flR_225 : am_Fl "FrameForgeModel" 225 8 42 := ⟨am_R8, am_F8, 52, rfl, by decide, am_w8, wd_in 758 (by decide +kernel) rfl, am_ty8, am_nm8⟩
theorem fpR_225 : am_Fp "FrameForgeModel" 225 8 42 := ⟨flR_225, am_R8, am_F8, 52, rfl, rfl⟩
theorem flR_241 : am_Fl "FrameForgeModel" 241 8 41 := ⟨am_R8, am_F8, 52, rfl, by decide, am_w8, wd_in 757 (by decide +kernel) rfl, am_ty8, am_nm8⟩
theorem fpR_241 : am_Fp "FrameForgeModel" 241 8 41 := ⟨flR_241, am_R8, am_F8, 52, rfl, rfl⟩
theorem flR_264 : am_Fl "FrameForgeModel" 264 8 38 := ⟨am_R8, am_F8, 52, rfl, by decide, am_w8, wd_in 754 (by decide +kernel) rfl, am_ty8, am_nm8⟩
theorem fpR_264 : am_Fp "FrameForgeModel" 264 8 38 := ⟨flR_264, am_R8, am_F8, 52, rfl, rfl⟩
theorem flR_277 : am_Fl "FrameForgeModel" 277 8 51 := ⟨am_R8, am_F8, 52, rfl, by decide, am_w8, wd_in 767 (by decide +kernel) rfl, am_ty8, am_nm8⟩
theorem fpR_277 : am_Fp "FrameForgeModel" 277 8 51 := ⟨flR_277, am_R8, am_F8, 52, rfl, rfl⟩
theorem gsF_206 : (Cond.fieldLink "FrameForge" 206 (am_sC 0) (am_sn 0) "[I" ∈ am_T ∨ ∃ host, ("FrameForge", 206, am_sC 0, am_sn 0, "[I", host) ∈ am_TF) := Or.inl (wd_in 350 (by decide +kernel) rfl)
theorem gsF_212 : (Cond.fieldLink "FrameForge" 212 (am_sC 1) (am_sn 1) "[I" ∈ am_T ∨ ∃ host, ("FrameForge", 212, am_sC 1, am_sn 1, "[I", host) ∈ am_TF) := Or.inl (wd_in 355 (by decide +kernel) rfl)
theorem gsE_57 : (Cond.fieldLink "FrameForge$Method" 57 (am_sC 0) (am_sn 0) "[I" ∈ am_T ∨ ∃ host, ("FrameForge$Method", 57, am_sC 0, am_sn 0, "[I", host) ∈ am_TF) := Or.inr ⟨"FrameForge", by decide +kernel⟩
theorem gsE_60 : (Cond.fieldLink "FrameForge$Method" 60 (am_sC 1) (am_sn 1) "[I" ∈ am_T ∨ ∃ host, ("FrameForge$Method", 60, am_sC 1, am_sn 1, "[I", host) ∈ am_TF) := Or.inr ⟨"FrameForge", by decide +kernel⟩
theorem gsE_70 : (Cond.fieldLink "FrameForge$Method" 70 (am_sC 2) (am_sn 2) "[I" ∈ am_T ∨ ∃ host, ("FrameForge$Method", 70, am_sC 2, am_sn 2, "[I", host) ∈ am_TF) := Or.inr ⟨"FrameForge", by decide +kernel⟩
theorem nwF_9 : am_Cn "FrameForge" 9 2 1 := ⟨am_R2, am_F2, rfl, am_w2, am_ty2, by decide +kernel, wd_in 20 (by decide +kernel) rfl, wd_in 22 (by decide +kernel) rfl, wd_in 2 (by decide +kernel) rfl⟩
theorem nwF_16 : am_Cn "FrameForge" 16 3 10 := ⟨am_R3, am_F3, rfl, am_w3, am_ty3, by decide +kernel, wd_in 108 (by decide +kernel) rfl, wd_in 109 (by decide +kernel) rfl, wd_in 4 (by decide +kernel) rfl⟩
theorem nwF_23 : am_Cn "FrameForge" 23 6 9 := ⟨am_R6, am_F6, rfl, am_w6, am_ty6, by decide +kernel, wd_in 148 (by decide +kernel) rfl, wd_in 149 (by decide +kernel) rfl, wd_in 5 (by decide +kernel) rfl⟩
theorem nwF_30 : am_Cn "FrameForge" 30 7 4 := ⟨am_R7, am_F7, rfl, am_w7, am_ty7, by decide +kernel, wd_in 216 (by decide +kernel) rfl, wd_in 217 (by decide +kernel) rfl, wd_in 7 (by decide +kernel) rfl⟩
theorem nwF_37 : am_Cn "FrameForge" 37 4 8 := ⟨am_R4, am_F4, rfl, am_w4, am_ty4, by decide +kernel, wd_in 237 (by decide +kernel) rfl, wd_in 238 (by decide +kernel) rfl, wd_in 8 (by decide +kernel) rfl⟩
theorem nwM_9 : am_Cn "FrameForge$Machine" 9 5 7 := ⟨am_R5, am_F5, rfl, am_w5, am_ty5, by decide +kernel, wd_in 154 (by decide +kernel) rfl, wd_in 156 (by decide +kernel) rfl, wd_in 6 (by decide +kernel) rfl⟩
theorem nwP_9 : am_Cn "FrameForge$Program" 9 1 11 := ⟨am_R1, am_F1, rfl, am_w1, am_ty1, by decide +kernel, wd_in 27 (by decide +kernel) rfl, wd_in 29 (by decide +kernel) rfl, wd_in 3 (by decide +kernel) rfl⟩
theorem nwW_9 : am_Cn "FrameForge$Rewriter" 9 1 11 := ⟨am_R1, am_F1, rfl, am_w1, am_ty1, by decide +kernel, wd_in 222 (by decide +kernel) rfl, wd_in 29 (by decide +kernel) rfl, wd_in 3 (by decide +kernel) rfl⟩
theorem nwY_7 : am_Cn "FrameForgeLaw" 7 0 7 := ⟨am_R0, am_F0, rfl, am_w0, am_ty0, by decide +kernel, wd_in 12 (by decide +kernel) rfl, wd_in 13 (by decide +kernel) rfl, wd_in 1 (by decide +kernel) rfl⟩
theorem nwY_10 : am_Cn "FrameForgeLaw" 10 8 52 := ⟨am_R8, am_F8, rfl, am_w8, am_ty8, by decide +kernel, wd_in 711 (by decide +kernel) rfl, wd_in 712 (by decide +kernel) rfl, wd_in 9 (by decide +kernel) rfl⟩
theorem nrF_9 : Cond.classLink "FrameForge" 9 (am_rc 0) ∈ am_T := wd_in 20 (by decide +kernel) rfl
theorem nrM_9 : Cond.classLink "FrameForge$Machine" 9 (am_rc 2) ∈ am_T := wd_in 154 (by decide +kernel) rfl
theorem nrP_9 : Cond.classLink "FrameForge$Program" 9 (am_rc 1) ∈ am_T := wd_in 27 (by decide +kernel) rfl
theorem kcM_146 : Cond.constant "FrameForge$Machine" 146 (65535 : Int32) ∈ am_T := wd_in 550 (by decide +kernel) rfl
theorem kcR_263 : Cond.constant "FrameForgeModel" 263 (65535 : Int32) ∈ am_T := wd_in 1040 (by decide +kernel) rfl
theorem ac_int : Cond.arrayClass .int ∈ am_T := wd_in 100 (by decide +kernel) rfl
theorem ac_boolean : Cond.arrayClass .boolean ∈ am_T := wd_in 147 (by decide +kernel) rfl
theorem ob_in : Cond.instanceMethod objectInit ∈ am_T := wd_in 18 (by decide +kernel) rfl
set_option maxRecDepth 100000 in
theorem ob_co : Cond.code objectInit ⟨#[0xb1]⟩ 1 none ∈ am_T := wd_in 19 rfl rfl
theorem max_st : Cond.static Lib.Math.max.name ∈ am_T := wd_in 493 (by decide +kernel) rfl
set_option maxRecDepth 100000 in
theorem max_co : Cond.code Lib.Math.max.name Lib.Math.max.code 2 (some .int) ∈ am_T := wd_in 494 rfl rfl
theorem min_st : Cond.static Lib.Math.min.name ∈ am_T := wd_in 602 (by decide +kernel) rfl
set_option maxRecDepth 100000 in
theorem min_co : Cond.code Lib.Math.min.name Lib.Math.min.code 2 (some .int) ∈ am_T := wd_in 603 rfl rfl
theorem math_in : Cond.initialized "java/lang/Math" ∈ am_T := wd_in 11 (by decide +kernel) rfl
theorem sys_in : Cond.initialized "java/lang/System" ∈ am_T := wd_in 10 (by decide +kernel) rfl
theorem cp_na : Cond.native arraycopyName ∈ am_T := wd_in 329 (by decide +kernel) rfl
theorem cp_st : Cond.static arraycopyName ∈ am_T := wd_in 328 (by decide +kernel) rfl
set_option maxRecDepth 100000 in
theorem coF_init : Cond.code (am_y jF_init) (am_by jF_init) (am_mx jF_init) (am_ret jF_init) ∈ am_T := wd_in 16 rfl rfl
theorem imF_init : Cond.instanceMethod (am_y jF_init) ∈ am_T := wd_in 15 (by decide +kernel) rfl
set_option maxRecDepth 100000 in
theorem coF_write : Cond.code (am_y jF_write) (am_by jF_write) (am_mx jF_write) (am_ret jF_write) ∈ am_T := wd_in 307 rfl rfl
theorem imF_write : Cond.instanceMethod (am_y jF_write) ∈ am_T := wd_in 305 (by decide +kernel) rfl
theorem seF_write : Cond.selects (am_y jF_write).cls (am_y jF_write) (am_y jF_write) ∈ am_T := wd_in 306 (by decide +kernel) rfl
set_option maxRecDepth 100000 in
theorem coF_branch : Cond.code (am_y jF_branch) (am_by jF_branch) (am_mx jF_branch) (am_ret jF_branch) ∈ am_T := wd_in 314 rfl rfl
theorem imF_branch : Cond.instanceMethod (am_y jF_branch) ∈ am_T := wd_in 312 (by decide +kernel) rfl
theorem seF_branch : Cond.selects (am_y jF_branch).cls (am_y jF_branch) (am_y jF_branch) ∈ am_T := wd_in 313 (by decide +kernel) rfl
set_option maxRecDepth 100000 in
theorem coF_method : Cond.code (am_y jF_method) (am_by jF_method) (am_mx jF_method) (am_ret jF_method) ∈ am_T := wd_in 337 rfl rfl
theorem imF_method : Cond.instanceMethod (am_y jF_method) ∈ am_T := wd_in 335 (by decide +kernel) rfl
theorem seF_method : Cond.selects (am_y jF_method).cls (am_y jF_method) (am_y jF_method) ∈ am_T := wd_in 336 (by decide +kernel) rfl
set_option maxRecDepth 100000 in
theorem coF_add : Cond.code (am_y jF_add) (am_by jF_add) (am_mx jF_add) (am_ret jF_add) ∈ am_T := wd_in 346 rfl rfl
theorem imF_add : Cond.instanceMethod (am_y jF_add) ∈ am_T := wd_in 344 (by decide +kernel) rfl
theorem seF_add : Cond.selects (am_y jF_add).cls (am_y jF_add) (am_y jF_add) ∈ am_T := wd_in 345 (by decide +kernel) rfl
set_option maxRecDepth 100000 in
theorem coF_change : Cond.code (am_y jF_change) (am_by jF_change) (am_mx jF_change) (am_ret jF_change) ∈ am_T := wd_in 366 rfl rfl
theorem imF_change : Cond.instanceMethod (am_y jF_change) ∈ am_T := wd_in 364 (by decide +kernel) rfl
theorem seF_change : Cond.selects (am_y jF_change).cls (am_y jF_change) (am_y jF_change) ∈ am_T := wd_in 365 (by decide +kernel) rfl
set_option maxRecDepth 100000 in
theorem coF_row : Cond.code (am_y jF_row) (am_by jF_row) (am_mx jF_row) (am_ret jF_row) ∈ am_T := wd_in 370 rfl rfl
theorem imF_row : Cond.instanceMethod (am_y jF_row) ∈ am_T := wd_in 368 (by decide +kernel) rfl
theorem seF_row : Cond.selects (am_y jF_row).cls (am_y jF_row) (am_y jF_row) ∈ am_T := wd_in 369 (by decide +kernel) rfl
set_option maxRecDepth 100000 in
theorem coF_check : Cond.code (am_y jF_check) (am_by jF_check) (am_mx jF_check) (am_ret jF_check) ∈ am_T := wd_in 378 rfl rfl
theorem imF_check : Cond.instanceMethod (am_y jF_check) ∈ am_T := wd_in 376 (by decide +kernel) rfl
theorem seF_check : Cond.selects (am_y jF_check).cls (am_y jF_check) (am_y jF_check) ∈ am_T := wd_in 377 (by decide +kernel) rfl
set_option maxRecDepth 100000 in
theorem coF_kindAt : Cond.code (am_y jF_kindAt) (am_by jF_kindAt) (am_mx jF_kindAt) (am_ret jF_kindAt) ∈ am_T := wd_in 447 rfl rfl
theorem imF_kindAt : Cond.instanceMethod (am_y jF_kindAt) ∈ am_T := wd_in 445 (by decide +kernel) rfl
theorem seF_kindAt : Cond.selects (am_y jF_kindAt).cls (am_y jF_kindAt) (am_y jF_kindAt) ∈ am_T := wd_in 446 (by decide +kernel) rfl
set_option maxRecDepth 100000 in
theorem coF_run : Cond.code (am_y jF_run) (am_by jF_run) (am_mx jF_run) (am_ret jF_run) ∈ am_T := wd_in 463 rfl rfl
theorem imF_run : Cond.instanceMethod (am_y jF_run) ∈ am_T := wd_in 461 (by decide +kernel) rfl
theorem seF_run : Cond.selects (am_y jF_run).cls (am_y jF_run) (am_y jF_run) ∈ am_T := wd_in 462 (by decide +kernel) rfl
set_option maxRecDepth 100000 in
theorem coF_ran : Cond.code (am_y jF_ran) (am_by jF_ran) (am_mx jF_ran) (am_ret jF_ran) ∈ am_T := wd_in 592 rfl rfl
theorem imF_ran : Cond.instanceMethod (am_y jF_ran) ∈ am_T := wd_in 590 (by decide +kernel) rfl
theorem seF_ran : Cond.selects (am_y jF_ran).cls (am_y jF_ran) (am_y jF_ran) ∈ am_T := wd_in 591 (by decide +kernel) rfl
set_option maxRecDepth 100000 in
theorem coF_trace : Cond.code (am_y jF_trace) (am_by jF_trace) (am_mx jF_trace) (am_ret jF_trace) ∈ am_T := wd_in 596 rfl rfl
theorem imF_trace : Cond.instanceMethod (am_y jF_trace) ∈ am_T := wd_in 594 (by decide +kernel) rfl
theorem seF_trace : Cond.selects (am_y jF_trace).cls (am_y jF_trace) (am_y jF_trace) ∈ am_T := wd_in 595 (by decide +kernel) rfl
set_option maxRecDepth 100000 in
theorem coF_compare : Cond.code (am_y jF_compare) (am_by jF_compare) (am_mx jF_compare) (am_ret jF_compare) ∈ am_T := wd_in 607 rfl rfl
theorem imF_compare : Cond.instanceMethod (am_y jF_compare) ∈ am_T := wd_in 605 (by decide +kernel) rfl
theorem seF_compare : Cond.selects (am_y jF_compare).cls (am_y jF_compare) (am_y jF_compare) ∈ am_T := wd_in 606 (by decide +kernel) rfl
set_option maxRecDepth 100000 in
theorem coF_unfold : Cond.code (am_y jF_unfold) (am_by jF_unfold) (am_mx jF_unfold) (am_ret jF_unfold) ∈ am_T := wd_in 616 rfl rfl
theorem imF_unfold : Cond.instanceMethod (am_y jF_unfold) ∈ am_T := wd_in 614 (by decide +kernel) rfl
theorem seF_unfold : Cond.selects (am_y jF_unfold).cls (am_y jF_unfold) (am_y jF_unfold) ∈ am_T := wd_in 615 (by decide +kernel) rfl
set_option maxRecDepth 100000 in
theorem coF_inline : Cond.code (am_y jF_inline) (am_by jF_inline) (am_mx jF_inline) (am_ret jF_inline) ∈ am_T := wd_in 670 rfl rfl
theorem imF_inline : Cond.instanceMethod (am_y jF_inline) ∈ am_T := wd_in 668 (by decide +kernel) rfl
theorem seF_inline : Cond.selects (am_y jF_inline).cls (am_y jF_inline) (am_y jF_inline) ∈ am_T := wd_in 669 (by decide +kernel) rfl
set_option maxRecDepth 100000 in
theorem coF_code : Cond.code (am_y jF_code) (am_by jF_code) (am_mx jF_code) (am_ret jF_code) ∈ am_T := wd_in 698 rfl rfl
theorem imF_code : Cond.instanceMethod (am_y jF_code) ∈ am_T := wd_in 696 (by decide +kernel) rfl
theorem seF_code : Cond.selects (am_y jF_code).cls (am_y jF_code) (am_y jF_code) ∈ am_T := wd_in 697 (by decide +kernel) rfl
set_option maxRecDepth 100000 in
theorem coF_table : Cond.code (am_y jF_table) (am_by jF_table) (am_mx jF_table) (am_ret jF_table) ∈ am_T := wd_in 702 rfl rfl
theorem imF_table : Cond.instanceMethod (am_y jF_table) ∈ am_T := wd_in 700 (by decide +kernel) rfl
theorem seF_table : Cond.selects (am_y jF_table).cls (am_y jF_table) (am_y jF_table) ∈ am_T := wd_in 701 (by decide +kernel) rfl
set_option maxRecDepth 100000 in
theorem coF_writtenMethod : Cond.code (am_y jF_writtenMethod) (am_by jF_writtenMethod) (am_mx jF_writtenMethod) (am_ret jF_writtenMethod) ∈ am_T := wd_in 341 rfl rfl
theorem imF_writtenMethod : Cond.instanceMethod (am_y jF_writtenMethod) ∈ am_T := wd_in 340 (by decide +kernel) rfl
theorem seF_writtenMethod : Cond.selects (am_y jF_writtenMethod).cls (am_y jF_writtenMethod) (am_y jF_writtenMethod) ∈ am_T := wd_ins (q := (am_y jF_writtenMethod, 7)) 0 (by decide +kernel)
set_option maxRecDepth 100000 in
theorem coF_allSound : Cond.code (am_y jF_allSound) (am_by jF_allSound) (am_mx jF_allSound) (am_ret jF_allSound) ∈ am_T := wd_in 467 rfl rfl
theorem imF_allSound : Cond.instanceMethod (am_y jF_allSound) ∈ am_T := wd_in 466 (by decide +kernel) rfl
theorem seF_allSound : Cond.selects (am_y jF_allSound).cls (am_y jF_allSound) (am_y jF_allSound) ∈ am_T := wd_ins (q := (am_y jF_allSound, 7)) 14 (by decide +kernel)
set_option maxRecDepth 100000 in
theorem coF_isBelow : Cond.code (am_y jF_isBelow) (am_by jF_isBelow) (am_mx jF_isBelow) (am_ret jF_isBelow) ∈ am_T := wd_in 310 rfl rfl
theorem stF_isBelow : Cond.static (am_y jF_isBelow) ∈ am_T := wd_in 309 (by decide +kernel) rfl
set_option maxRecDepth 100000 in
theorem coF_hasBit : Cond.code (am_y jF_hasBit) (am_by jF_hasBit) (am_mx jF_hasBit) (am_ret jF_hasBit) ∈ am_T := wd_in 474 rfl rfl
theorem stF_hasBit : Cond.static (am_y jF_hasBit) ∈ am_T := wd_in 473 (by decide +kernel) rfl
set_option maxRecDepth 100000 in
theorem coF_isInstruction : Cond.code (am_y jF_isInstruction) (am_by jF_isInstruction) (am_mx jF_isInstruction) (am_ret jF_isInstruction) ∈ am_T := wd_in 349 rfl rfl
theorem stF_isInstruction : Cond.static (am_y jF_isInstruction) ∈ am_T := wd_in 348 (by decide +kernel) rfl
set_option maxRecDepth 100000 in
theorem coF_isOperand : Cond.code (am_y jF_isOperand) (am_by jF_isOperand) (am_mx jF_isOperand) (am_ret jF_isOperand) ∈ am_T := wd_in 354 rfl rfl
theorem stF_isOperand : Cond.static (am_y jF_isOperand) ∈ am_T := wd_in 353 (by decide +kernel) rfl
set_option maxRecDepth 100000 in
theorem coF_isJump : Cond.code (am_y jF_isJump) (am_by jF_isJump) (am_mx jF_isJump) (am_ret jF_isJump) ∈ am_T := wd_in 443 rfl rfl
theorem stF_isJump : Cond.static (am_y jF_isJump) ∈ am_T := wd_in 442 (by decide +kernel) rfl
set_option maxRecDepth 100000 in
theorem coR_init : Cond.code (am_y jR_init) (am_by jR_init) (am_mx jR_init) (am_ret jR_init) ∈ am_T := wd_in 715 rfl rfl
theorem imR_init : Cond.instanceMethod (am_y jR_init) ∈ am_T := wd_in 714 (by decide +kernel) rfl
set_option maxRecDepth 100000 in
theorem coR_in : Cond.code (am_y jR_in) (am_by jR_in) (am_mx jR_in) (am_ret jR_in) ∈ am_T := wd_in 879 rfl rfl
theorem stR_in : Cond.static (am_y jR_in) ∈ am_T := wd_in 878 (by decide +kernel) rfl
set_option maxRecDepth 100000 in
theorem coR_own : Cond.code (am_y jR_own) (am_by jR_own) (am_mx jR_own) (am_ret jR_own) ∈ am_T := wd_in 899 rfl rfl
theorem imR_own : Cond.instanceMethod (am_y jR_own) ∈ am_T := wd_in 898 (by decide +kernel) rfl
theorem seR_own : Cond.selects (am_y jR_own).cls (am_y jR_own) (am_y jR_own) ∈ am_T := wd_ins (q := (am_y jR_own, 52)) 41 (by decide +kernel)
set_option maxRecDepth 100000 in
theorem coR_write : Cond.code (am_y jR_write) (am_by jR_write) (am_mx jR_write) (am_ret jR_write) ∈ am_T := wd_in 876 rfl rfl
theorem imR_write : Cond.instanceMethod (am_y jR_write) ∈ am_T := wd_in 874 (by decide +kernel) rfl
theorem seR_write : Cond.selects (am_y jR_write).cls (am_y jR_write) (am_y jR_write) ∈ am_T := wd_in 875 (by decide +kernel) rfl
set_option maxRecDepth 100000 in
theorem coR_branch : Cond.code (am_y jR_branch) (am_by jR_branch) (am_mx jR_branch) (am_ret jR_branch) ∈ am_T := wd_in 883 rfl rfl
theorem imR_branch : Cond.instanceMethod (am_y jR_branch) ∈ am_T := wd_in 881 (by decide +kernel) rfl
theorem seR_branch : Cond.selects (am_y jR_branch).cls (am_y jR_branch) (am_y jR_branch) ∈ am_T := wd_in 882 (by decide +kernel) rfl
set_option maxRecDepth 100000 in
theorem coR_method : Cond.code (am_y jR_method) (am_by jR_method) (am_mx jR_method) (am_ret jR_method) ∈ am_T := wd_in 895 rfl rfl
theorem imR_method : Cond.instanceMethod (am_y jR_method) ∈ am_T := wd_in 893 (by decide +kernel) rfl
theorem seR_method : Cond.selects (am_y jR_method).cls (am_y jR_method) (am_y jR_method) ∈ am_T := wd_in 894 (by decide +kernel) rfl
set_option maxRecDepth 100000 in
theorem coR_set : Cond.code (am_y jR_set) (am_by jR_set) (am_mx jR_set) (am_ret jR_set) ∈ am_T := wd_in 887 rfl rfl
theorem imR_set : Cond.instanceMethod (am_y jR_set) ∈ am_T := wd_in 886 (by decide +kernel) rfl
theorem seR_set : Cond.selects (am_y jR_set).cls (am_y jR_set) (am_y jR_set) ∈ am_T := wd_ins (q := (am_y jR_set, 52)) 39 (by decide +kernel)
set_option maxRecDepth 100000 in
theorem coR_setRow : Cond.code (am_y jR_setRow) (am_by jR_setRow) (am_mx jR_setRow) (am_ret jR_setRow) ∈ am_T := wd_in 891 rfl rfl
theorem imR_setRow : Cond.instanceMethod (am_y jR_setRow) ∈ am_T := wd_in 890 (by decide +kernel) rfl
theorem seR_setRow : Cond.selects (am_y jR_setRow).cls (am_y jR_setRow) (am_y jR_setRow) ∈ am_T := wd_ins (q := (am_y jR_setRow, 52)) 40 (by decide +kernel)
set_option maxRecDepth 100000 in
theorem coR_isJump : Cond.code (am_y jR_isJump) (am_by jR_isJump) (am_mx jR_isJump) (am_ret jR_isJump) ∈ am_T := wd_in 909 rfl rfl
theorem stR_isJump : Cond.static (am_y jR_isJump) ∈ am_T := wd_in 908 (by decide +kernel) rfl
set_option maxRecDepth 100000 in
theorem coR_mostA : Cond.code (am_y jR_mostA) (am_by jR_mostA) (am_mx jR_mostA) (am_ret jR_mostA) ∈ am_T := wd_in 912 rfl rfl
theorem stR_mostA : Cond.static (am_y jR_mostA) ∈ am_T := wd_in 911 (by decide +kernel) rfl
set_option maxRecDepth 100000 in
theorem coR_isGood : Cond.code (am_y jR_isGood) (am_by jR_isGood) (am_mx jR_isGood) (am_ret jR_isGood) ∈ am_T := wd_in 906 rfl rfl
theorem stR_isGood : Cond.static (am_y jR_isGood) ∈ am_T := wd_in 905 (by decide +kernel) rfl
set_option maxRecDepth 100000 in
theorem coR_put : Cond.code (am_y jR_put) (am_by jR_put) (am_mx jR_put) (am_ret jR_put) ∈ am_T := wd_in 916 rfl rfl
theorem imR_put : Cond.instanceMethod (am_y jR_put) ∈ am_T := wd_in 915 (by decide +kernel) rfl
theorem seR_put : Cond.selects (am_y jR_put).cls (am_y jR_put) (am_y jR_put) ∈ am_T := wd_ins (q := (am_y jR_put, 52)) 42 (by decide +kernel)
set_option maxRecDepth 100000 in
theorem coR_add : Cond.code (am_y jR_add) (am_by jR_add) (am_mx jR_add) (am_ret jR_add) ∈ am_T := wd_in 903 rfl rfl
theorem imR_add : Cond.instanceMethod (am_y jR_add) ∈ am_T := wd_in 901 (by decide +kernel) rfl
theorem seR_add : Cond.selects (am_y jR_add).cls (am_y jR_add) (am_y jR_add) ∈ am_T := wd_in 902 (by decide +kernel) rfl
set_option maxRecDepth 100000 in
theorem coR_change : Cond.code (am_y jR_change) (am_by jR_change) (am_mx jR_change) (am_ret jR_change) ∈ am_T := wd_in 920 rfl rfl
theorem imR_change : Cond.instanceMethod (am_y jR_change) ∈ am_T := wd_in 918 (by decide +kernel) rfl
theorem seR_change : Cond.selects (am_y jR_change).cls (am_y jR_change) (am_y jR_change) ∈ am_T := wd_in 919 (by decide +kernel) rfl
set_option maxRecDepth 100000 in
theorem coR_row : Cond.code (am_y jR_row) (am_by jR_row) (am_mx jR_row) (am_ret jR_row) ∈ am_T := wd_in 924 rfl rfl
theorem imR_row : Cond.instanceMethod (am_y jR_row) ∈ am_T := wd_in 922 (by decide +kernel) rfl
theorem seR_row : Cond.selects (am_y jR_row).cls (am_y jR_row) (am_y jR_row) ∈ am_T := wd_in 923 (by decide +kernel) rfl
set_option maxRecDepth 100000 in
theorem coR_push : Cond.code (am_y jR_push) (am_by jR_push) (am_mx jR_push) (am_ret jR_push) ∈ am_T := wd_in 948 rfl rfl
theorem imR_push : Cond.instanceMethod (am_y jR_push) ∈ am_T := wd_in 947 (by decide +kernel) rfl
theorem seR_push : Cond.selects (am_y jR_push).cls (am_y jR_push) (am_y jR_push) ∈ am_T := wd_ins (q := (am_y jR_push, 52)) 47 (by decide +kernel)
set_option maxRecDepth 100000 in
theorem coR_take : Cond.code (am_y jR_take) (am_by jR_take) (am_mx jR_take) (am_ret jR_take) ∈ am_T := wd_in 952 rfl rfl
theorem imR_take : Cond.instanceMethod (am_y jR_take) ∈ am_T := wd_in 951 (by decide +kernel) rfl
theorem seR_take : Cond.selects (am_y jR_take).cls (am_y jR_take) (am_y jR_take) ∈ am_T := wd_ins (q := (am_y jR_take, 52)) 48 (by decide +kernel)
set_option maxRecDepth 100000 in
theorem coR_fetch : Cond.code (am_y jR_fetch) (am_by jR_fetch) (am_mx jR_fetch) (am_ret jR_fetch) ∈ am_T := wd_in 940 rfl rfl
theorem imR_fetch : Cond.instanceMethod (am_y jR_fetch) ∈ am_T := wd_in 939 (by decide +kernel) rfl
theorem seR_fetch : Cond.selects (am_y jR_fetch).cls (am_y jR_fetch) (am_y jR_fetch) ∈ am_T := wd_ins (q := (am_y jR_fetch, 52)) 45 (by decide +kernel)
set_option maxRecDepth 100000 in
theorem coR_arrive : Cond.code (am_y jR_arrive) (am_by jR_arrive) (am_mx jR_arrive) (am_ret jR_arrive) ∈ am_T := wd_in 936 rfl rfl
theorem imR_arrive : Cond.instanceMethod (am_y jR_arrive) ∈ am_T := wd_in 935 (by decide +kernel) rfl
theorem seR_arrive : Cond.selects (am_y jR_arrive).cls (am_y jR_arrive) (am_y jR_arrive) ∈ am_T := wd_ins (q := (am_y jR_arrive, 52)) 44 (by decide +kernel)
set_option maxRecDepth 100000 in
theorem coR_move : Cond.code (am_y jR_move) (am_by jR_move) (am_mx jR_move) (am_ret jR_move) ∈ am_T := wd_in 956 rfl rfl
theorem imR_move : Cond.instanceMethod (am_y jR_move) ∈ am_T := wd_in 955 (by decide +kernel) rfl
theorem seR_move : Cond.selects (am_y jR_move).cls (am_y jR_move) (am_y jR_move) ∈ am_T := wd_ins (q := (am_y jR_move, 52)) 49 (by decide +kernel)
set_option maxRecDepth 100000 in
theorem coR_leave : Cond.code (am_y jR_leave) (am_by jR_leave) (am_mx jR_leave) (am_ret jR_leave) ∈ am_T := wd_in 944 rfl rfl
theorem imR_leave : Cond.instanceMethod (am_y jR_leave) ∈ am_T := wd_in 943 (by decide +kernel) rfl
theorem seR_leave : Cond.selects (am_y jR_leave).cls (am_y jR_leave) (am_y jR_leave) ∈ am_T := wd_ins (q := (am_y jR_leave, 52)) 46 (by decide +kernel)
set_option maxRecDepth 100000 in
theorem coR_goOn : Cond.code (am_y jR_goOn) (am_by jR_goOn) (am_mx jR_goOn) (am_ret jR_goOn) ∈ am_T := wd_in 960 rfl rfl
theorem imR_goOn : Cond.instanceMethod (am_y jR_goOn) ∈ am_T := wd_in 959 (by decide +kernel) rfl
theorem seR_goOn : Cond.selects (am_y jR_goOn).cls (am_y jR_goOn) (am_y jR_goOn) ∈ am_T := wd_ins (q := (am_y jR_goOn, 52)) 50 (by decide +kernel)
set_option maxRecDepth 100000 in
theorem coR_refuse : Cond.code (am_y jR_refuse) (am_by jR_refuse) (am_mx jR_refuse) (am_ret jR_refuse) ∈ am_T := wd_in 964 rfl rfl
theorem imR_refuse : Cond.instanceMethod (am_y jR_refuse) ∈ am_T := wd_in 963 (by decide +kernel) rfl
theorem seR_refuse : Cond.selects (am_y jR_refuse).cls (am_y jR_refuse) (am_y jR_refuse) ∈ am_T := wd_ins (q := (am_y jR_refuse, 52)) 51 (by decide +kernel)
set_option maxRecDepth 100000 in
theorem coR_isRight : Cond.code (am_y jR_isRight) (am_by jR_isRight) (am_mx jR_isRight) (am_ret jR_isRight) ∈ am_T := wd_in 932 rfl rfl
theorem imR_isRight : Cond.instanceMethod (am_y jR_isRight) ∈ am_T := wd_in 931 (by decide +kernel) rfl
theorem seR_isRight : Cond.selects (am_y jR_isRight).cls (am_y jR_isRight) (am_y jR_isRight) ∈ am_T := wd_ins (q := (am_y jR_isRight, 52)) 43 (by decide +kernel)
set_option maxRecDepth 100000 in
theorem coR_check : Cond.code (am_y jR_check) (am_by jR_check) (am_mx jR_check) (am_ret jR_check) ∈ am_T := wd_in 928 rfl rfl
theorem imR_check : Cond.instanceMethod (am_y jR_check) ∈ am_T := wd_in 926 (by decide +kernel) rfl
theorem seR_check : Cond.selects (am_y jR_check).cls (am_y jR_check) (am_y jR_check) ∈ am_T := wd_in 927 (by decide +kernel) rfl
set_option maxRecDepth 100000 in
theorem coR_kindAt : Cond.code (am_y jR_kindAt) (am_by jR_kindAt) (am_mx jR_kindAt) (am_ret jR_kindAt) ∈ am_T := wd_in 968 rfl rfl
theorem imR_kindAt : Cond.instanceMethod (am_y jR_kindAt) ∈ am_T := wd_in 966 (by decide +kernel) rfl
theorem seR_kindAt : Cond.selects (am_y jR_kindAt).cls (am_y jR_kindAt) (am_y jR_kindAt) ∈ am_T := wd_in 967 (by decide +kernel) rfl
set_option maxRecDepth 100000 in
theorem coR_isUnder : Cond.code (am_y jR_isUnder) (am_by jR_isUnder) (am_mx jR_isUnder) (am_ret jR_isUnder) ∈ am_T := wd_in 1015 rfl rfl
theorem stR_isUnder : Cond.static (am_y jR_isUnder) ∈ am_T := wd_in 1014 (by decide +kernel) rfl
set_option maxRecDepth 100000 in
theorem coR_tell : Cond.code (am_y jR_tell) (am_by jR_tell) (am_mx jR_tell) (am_ret jR_tell) ∈ am_T := wd_in 988 rfl rfl
theorem imR_tell : Cond.instanceMethod (am_y jR_tell) ∈ am_T := wd_in 987 (by decide +kernel) rfl
theorem seR_tell : Cond.selects (am_y jR_tell).cls (am_y jR_tell) (am_y jR_tell) ∈ am_T := wd_ins (q := (am_y jR_tell, 52)) 55 (by decide +kernel)
set_option maxRecDepth 100000 in
theorem coR_make : Cond.code (am_y jR_make) (am_by jR_make) (am_mx jR_make) (am_ret jR_make) ∈ am_T := wd_in 1008 rfl rfl
theorem imR_make : Cond.instanceMethod (am_y jR_make) ∈ am_T := wd_in 1007 (by decide +kernel) rfl
theorem seR_make : Cond.selects (am_y jR_make).cls (am_y jR_make) (am_y jR_make) ∈ am_T := wd_ins (q := (am_y jR_make, 52)) 60 (by decide +kernel)
set_option maxRecDepth 100000 in
theorem coR_begin : Cond.code (am_y jR_begin) (am_by jR_begin) (am_mx jR_begin) (am_ret jR_begin) ∈ am_T := wd_in 984 rfl rfl
theorem imR_begin : Cond.instanceMethod (am_y jR_begin) ∈ am_T := wd_in 983 (by decide +kernel) rfl
theorem seR_begin : Cond.selects (am_y jR_begin).cls (am_y jR_begin) (am_y jR_begin) ∈ am_T := wd_ins (q := (am_y jR_begin, 52)) 54 (by decide +kernel)
set_option maxRecDepth 100000 in
theorem coR_finish : Cond.code (am_y jR_finish) (am_by jR_finish) (am_mx jR_finish) (am_ret jR_finish) ∈ am_T := wd_in 1019 rfl rfl
theorem imR_finish : Cond.instanceMethod (am_y jR_finish) ∈ am_T := wd_in 1018 (by decide +kernel) rfl
theorem seR_finish : Cond.selects (am_y jR_finish).cls (am_y jR_finish) (am_y jR_finish) ∈ am_T := wd_ins (q := (am_y jR_finish, 52)) 62 (by decide +kernel)
set_option maxRecDepth 100000 in
theorem coR_raise : Cond.code (am_y jR_raise) (am_by jR_raise) (am_mx jR_raise) (am_ret jR_raise) ∈ am_T := wd_in 1012 rfl rfl
theorem imR_raise : Cond.instanceMethod (am_y jR_raise) ∈ am_T := wd_in 1011 (by decide +kernel) rfl
theorem seR_raise : Cond.selects (am_y jR_raise).cls (am_y jR_raise) (am_y jR_raise) ∈ am_T := wd_ins (q := (am_y jR_raise, 52)) 61 (by decide +kernel)
set_option maxRecDepth 100000 in
theorem coR_machine : Cond.code (am_y jR_machine) (am_by jR_machine) (am_mx jR_machine) (am_ret jR_machine) ∈ am_T := wd_in 1004 rfl rfl
theorem imR_machine : Cond.instanceMethod (am_y jR_machine) ∈ am_T := wd_in 1003 (by decide +kernel) rfl
theorem seR_machine : Cond.selects (am_y jR_machine).cls (am_y jR_machine) (am_y jR_machine) ∈ am_T := wd_ins (q := (am_y jR_machine, 52)) 59 (by decide +kernel)
set_option maxRecDepth 100000 in
theorem coR_pop : Cond.code (am_y jR_pop) (am_by jR_pop) (am_mx jR_pop) (am_ret jR_pop) ∈ am_T := wd_in 996 rfl rfl
theorem imR_pop : Cond.instanceMethod (am_y jR_pop) ∈ am_T := wd_in 995 (by decide +kernel) rfl
theorem seR_pop : Cond.selects (am_y jR_pop).cls (am_y jR_pop) (am_y jR_pop) ∈ am_T := wd_ins (q := (am_y jR_pop, 52)) 57 (by decide +kernel)
set_option maxRecDepth 100000 in
theorem coR_give : Cond.code (am_y jR_give) (am_by jR_give) (am_mx jR_give) (am_ret jR_give) ∈ am_T := wd_in 1023 rfl rfl
theorem imR_give : Cond.instanceMethod (am_y jR_give) ∈ am_T := wd_in 1022 (by decide +kernel) rfl
theorem seR_give : Cond.selects (am_y jR_give).cls (am_y jR_give) (am_y jR_give) ∈ am_T := wd_ins (q := (am_y jR_give, 52)) 63 (by decide +kernel)
set_option maxRecDepth 100000 in
theorem coR_call : Cond.code (am_y jR_call) (am_by jR_call) (am_mx jR_call) (am_ret jR_call) ∈ am_T := wd_in 1035 rfl rfl
theorem imR_call : Cond.instanceMethod (am_y jR_call) ∈ am_T := wd_in 1034 (by decide +kernel) rfl
theorem seR_call : Cond.selects (am_y jR_call).cls (am_y jR_call) (am_y jR_call) ∈ am_T := wd_ins (q := (am_y jR_call, 52)) 66 (by decide +kernel)
set_option maxRecDepth 100000 in
theorem coR_back : Cond.code (am_y jR_back) (am_by jR_back) (am_mx jR_back) (am_ret jR_back) ∈ am_T := wd_in 1039 rfl rfl
theorem imR_back : Cond.instanceMethod (am_y jR_back) ∈ am_T := wd_in 1038 (by decide +kernel) rfl
theorem seR_back : Cond.selects (am_y jR_back).cls (am_y jR_back) (am_y jR_back) ∈ am_T := wd_ins (q := (am_y jR_back, 52)) 67 (by decide +kernel)
set_option maxRecDepth 100000 in
theorem coR_release : Cond.code (am_y jR_release) (am_by jR_release) (am_mx jR_release) (am_ret jR_release) ∈ am_T := wd_in 1031 rfl rfl
theorem imR_release : Cond.instanceMethod (am_y jR_release) ∈ am_T := wd_in 1030 (by decide +kernel) rfl
theorem seR_release : Cond.selects (am_y jR_release).cls (am_y jR_release) (am_y jR_release) ∈ am_T := wd_ins (q := (am_y jR_release, 52)) 65 (by decide +kernel)
set_option maxRecDepth 100000 in
theorem coR_sum : Cond.code (am_y jR_sum) (am_by jR_sum) (am_mx jR_sum) (am_ret jR_sum) ∈ am_T := wd_in 1000 rfl rfl
theorem imR_sum : Cond.instanceMethod (am_y jR_sum) ∈ am_T := wd_in 999 (by decide +kernel) rfl
theorem seR_sum : Cond.selects (am_y jR_sum).cls (am_y jR_sum) (am_y jR_sum) ∈ am_T := wd_ins (q := (am_y jR_sum, 52)) 58 (by decide +kernel)
set_option maxRecDepth 100000 in
theorem coR_onObject : Cond.code (am_y jR_onObject) (am_by jR_onObject) (am_mx jR_onObject) (am_ret jR_onObject) ∈ am_T := wd_in 1027 rfl rfl
theorem imR_onObject : Cond.instanceMethod (am_y jR_onObject) ∈ am_T := wd_in 1026 (by decide +kernel) rfl
theorem seR_onObject : Cond.selects (am_y jR_onObject).cls (am_y jR_onObject) (am_y jR_onObject) ∈ am_T := wd_ins (q := (am_y jR_onObject, 52)) 64 (by decide +kernel)
set_option maxRecDepth 100000 in
theorem coR_step : Cond.code (am_y jR_step) (am_by jR_step) (am_mx jR_step) (am_ret jR_step) ∈ am_T := wd_in 992 rfl rfl
theorem imR_step : Cond.instanceMethod (am_y jR_step) ∈ am_T := wd_in 991 (by decide +kernel) rfl
theorem seR_step : Cond.selects (am_y jR_step).cls (am_y jR_step) (am_y jR_step) ∈ am_T := wd_ins (q := (am_y jR_step, 52)) 56 (by decide +kernel)
set_option maxRecDepth 100000 in
theorem coR_allRight : Cond.code (am_y jR_allRight) (am_by jR_allRight) (am_mx jR_allRight) (am_ret jR_allRight) ∈ am_T := wd_in 976 rfl rfl
theorem imR_allRight : Cond.instanceMethod (am_y jR_allRight) ∈ am_T := wd_in 975 (by decide +kernel) rfl
theorem seR_allRight : Cond.selects (am_y jR_allRight).cls (am_y jR_allRight) (am_y jR_allRight) ∈ am_T := wd_ins (q := (am_y jR_allRight, 52)) 52 (by decide +kernel)
set_option maxRecDepth 100000 in
theorem coR_go : Cond.code (am_y jR_go) (am_by jR_go) (am_mx jR_go) (am_ret jR_go) ∈ am_T := wd_in 980 rfl rfl
theorem imR_go : Cond.instanceMethod (am_y jR_go) ∈ am_T := wd_in 979 (by decide +kernel) rfl
theorem seR_go : Cond.selects (am_y jR_go).cls (am_y jR_go) (am_y jR_go) ∈ am_T := wd_ins (q := (am_y jR_go, 52)) 53 (by decide +kernel)
set_option maxRecDepth 100000 in
theorem coR_run : Cond.code (am_y jR_run) (am_by jR_run) (am_mx jR_run) (am_ret jR_run) ∈ am_T := wd_in 972 rfl rfl
theorem imR_run : Cond.instanceMethod (am_y jR_run) ∈ am_T := wd_in 970 (by decide +kernel) rfl
theorem seR_run : Cond.selects (am_y jR_run).cls (am_y jR_run) (am_y jR_run) ∈ am_T := wd_in 971 (by decide +kernel) rfl
set_option maxRecDepth 100000 in
theorem coR_ran : Cond.code (am_y jR_ran) (am_by jR_ran) (am_mx jR_ran) (am_ret jR_ran) ∈ am_T := wd_in 1044 rfl rfl
theorem imR_ran : Cond.instanceMethod (am_y jR_ran) ∈ am_T := wd_in 1042 (by decide +kernel) rfl
theorem seR_ran : Cond.selects (am_y jR_ran).cls (am_y jR_ran) (am_y jR_ran) ∈ am_T := wd_in 1043 (by decide +kernel) rfl
set_option maxRecDepth 100000 in
theorem coR_trace : Cond.code (am_y jR_trace) (am_by jR_trace) (am_mx jR_trace) (am_ret jR_trace) ∈ am_T := wd_in 1048 rfl rfl
theorem imR_trace : Cond.instanceMethod (am_y jR_trace) ∈ am_T := wd_in 1046 (by decide +kernel) rfl
theorem seR_trace : Cond.selects (am_y jR_trace).cls (am_y jR_trace) (am_y jR_trace) ∈ am_T := wd_in 1047 (by decide +kernel) rfl
set_option maxRecDepth 100000 in
theorem coR_compare : Cond.code (am_y jR_compare) (am_by jR_compare) (am_mx jR_compare) (am_ret jR_compare) ∈ am_T := wd_in 1052 rfl rfl
theorem imR_compare : Cond.instanceMethod (am_y jR_compare) ∈ am_T := wd_in 1050 (by decide +kernel) rfl
theorem seR_compare : Cond.selects (am_y jR_compare).cls (am_y jR_compare) (am_y jR_compare) ∈ am_T := wd_in 1051 (by decide +kernel) rfl
set_option maxRecDepth 100000 in
theorem coR_shifted : Cond.code (am_y jR_shifted) (am_by jR_shifted) (am_mx jR_shifted) (am_ret jR_shifted) ∈ am_T := wd_in 1063 rfl rfl
theorem stR_shifted : Cond.static (am_y jR_shifted) ∈ am_T := wd_in 1062 (by decide +kernel) rfl
set_option maxRecDepth 100000 in
theorem coR_newRow : Cond.code (am_y jR_newRow) (am_by jR_newRow) (am_mx jR_newRow) (am_ret jR_newRow) ∈ am_T := wd_in 1067 rfl rfl
theorem imR_newRow : Cond.instanceMethod (am_y jR_newRow) ∈ am_T := wd_in 1066 (by decide +kernel) rfl
theorem seR_newRow : Cond.selects (am_y jR_newRow).cls (am_y jR_newRow) (am_y jR_newRow) ∈ am_T := wd_ins (q := (am_y jR_newRow, 52)) 69 (by decide +kernel)
set_option maxRecDepth 100000 in
theorem coR_replace : Cond.code (am_y jR_replace) (am_by jR_replace) (am_mx jR_replace) (am_ret jR_replace) ∈ am_T := wd_in 1075 rfl rfl
theorem imR_replace : Cond.instanceMethod (am_y jR_replace) ∈ am_T := wd_in 1074 (by decide +kernel) rfl
theorem seR_replace : Cond.selects (am_y jR_replace).cls (am_y jR_replace) (am_y jR_replace) ∈ am_T := wd_ins (q := (am_y jR_replace, 52)) 71 (by decide +kernel)
set_option maxRecDepth 100000 in
theorem coR_newInstruction : Cond.code (am_y jR_newInstruction) (am_by jR_newInstruction) (am_mx jR_newInstruction) (am_ret jR_newInstruction) ∈ am_T := wd_in 1071 rfl rfl
theorem imR_newInstruction : Cond.instanceMethod (am_y jR_newInstruction) ∈ am_T := wd_in 1070 (by decide +kernel) rfl
theorem seR_newInstruction : Cond.selects (am_y jR_newInstruction).cls (am_y jR_newInstruction) (am_y jR_newInstruction) ∈ am_T := wd_ins (q := (am_y jR_newInstruction, 52)) 70 (by decide +kernel)
set_option maxRecDepth 100000 in
theorem coR_endOf : Cond.code (am_y jR_endOf) (am_by jR_endOf) (am_mx jR_endOf) (am_ret jR_endOf) ∈ am_T := wd_in 1060 rfl rfl
theorem imR_endOf : Cond.instanceMethod (am_y jR_endOf) ∈ am_T := wd_in 1059 (by decide +kernel) rfl
theorem seR_endOf : Cond.selects (am_y jR_endOf).cls (am_y jR_endOf) (am_y jR_endOf) ∈ am_T := wd_ins (q := (am_y jR_endOf, 52)) 68 (by decide +kernel)
set_option maxRecDepth 100000 in
theorem coR_unfold : Cond.code (am_y jR_unfold) (am_by jR_unfold) (am_mx jR_unfold) (am_ret jR_unfold) ∈ am_T := wd_in 1056 rfl rfl
theorem imR_unfold : Cond.instanceMethod (am_y jR_unfold) ∈ am_T := wd_in 1054 (by decide +kernel) rfl
theorem seR_unfold : Cond.selects (am_y jR_unfold).cls (am_y jR_unfold) (am_y jR_unfold) ∈ am_T := wd_in 1055 (by decide +kernel) rfl
set_option maxRecDepth 100000 in
theorem coR_greatest : Cond.code (am_y jR_greatest) (am_by jR_greatest) (am_mx jR_greatest) (am_ret jR_greatest) ∈ am_T := wd_in 1083 rfl rfl
theorem imR_greatest : Cond.instanceMethod (am_y jR_greatest) ∈ am_T := wd_in 1082 (by decide +kernel) rfl
theorem seR_greatest : Cond.selects (am_y jR_greatest).cls (am_y jR_greatest) (am_y jR_greatest) ∈ am_T := wd_ins (q := (am_y jR_greatest, 52)) 72 (by decide +kernel)
set_option maxRecDepth 100000 in
theorem coR_mayInline : Cond.code (am_y jR_mayInline) (am_by jR_mayInline) (am_mx jR_mayInline) (am_ret jR_mayInline) ∈ am_T := wd_in 1087 rfl rfl
theorem imR_mayInline : Cond.instanceMethod (am_y jR_mayInline) ∈ am_T := wd_in 1086 (by decide +kernel) rfl
theorem seR_mayInline : Cond.selects (am_y jR_mayInline).cls (am_y jR_mayInline) (am_y jR_mayInline) ∈ am_T := wd_ins (q := (am_y jR_mayInline, 52)) 73 (by decide +kernel)
set_option maxRecDepth 100000 in
theorem coR_inline : Cond.code (am_y jR_inline) (am_by jR_inline) (am_mx jR_inline) (am_ret jR_inline) ∈ am_T := wd_in 1079 rfl rfl
theorem imR_inline : Cond.instanceMethod (am_y jR_inline) ∈ am_T := wd_in 1077 (by decide +kernel) rfl
theorem seR_inline : Cond.selects (am_y jR_inline).cls (am_y jR_inline) (am_y jR_inline) ∈ am_T := wd_in 1078 (by decide +kernel) rfl
set_option maxRecDepth 100000 in
theorem coR_code : Cond.code (am_y jR_code) (am_by jR_code) (am_mx jR_code) (am_ret jR_code) ∈ am_T := wd_in 1091 rfl rfl
theorem imR_code : Cond.instanceMethod (am_y jR_code) ∈ am_T := wd_in 1089 (by decide +kernel) rfl
theorem seR_code : Cond.selects (am_y jR_code).cls (am_y jR_code) (am_y jR_code) ∈ am_T := wd_in 1090 (by decide +kernel) rfl
set_option maxRecDepth 100000 in
theorem coR_table : Cond.code (am_y jR_table) (am_by jR_table) (am_mx jR_table) (am_ret jR_table) ∈ am_T := wd_in 1095 rfl rfl
theorem imR_table : Cond.instanceMethod (am_y jR_table) ∈ am_T := wd_in 1093 (by decide +kernel) rfl
theorem seR_table : Cond.selects (am_y jR_table).cls (am_y jR_table) (am_y jR_table) ∈ am_T := wd_in 1094 (by decide +kernel) rfl
set_option maxRecDepth 100000 in
theorem coC_init : Cond.code (am_y jC_init) (am_by jC_init) (am_mx jC_init) (am_ret jC_init) ∈ am_T := wd_in 112 rfl rfl
theorem imC_init : Cond.instanceMethod (am_y jC_init) ∈ am_T := wd_in 111 (by decide +kernel) rfl
set_option maxRecDepth 100000 in
theorem coC_follow : Cond.code (am_y jC_follow) (am_by jC_follow) (am_mx jC_follow) (am_ret jC_follow) ∈ am_T := wd_in 382 rfl rfl
theorem imC_follow : Cond.instanceMethod (am_y jC_follow) ∈ am_T := wd_in 380 (by decide +kernel) rfl
theorem seC_follow : Cond.selects (am_y jC_follow).cls (am_y jC_follow) (am_y jC_follow) ∈ am_T := wd_in 381 (by decide +kernel) rfl
set_option maxRecDepth 100000 in
theorem coC_comesTo : Cond.code (am_y jC_comesTo) (am_by jC_comesTo) (am_mx jC_comesTo) (am_ret jC_comesTo) ∈ am_T := wd_in 451 rfl rfl
theorem imC_comesTo : Cond.instanceMethod (am_y jC_comesTo) ∈ am_T := wd_in 449 (by decide +kernel) rfl
theorem seC_comesTo : Cond.selects (am_y jC_comesTo).cls (am_y jC_comesTo) (am_y jC_comesTo) ∈ am_T := wd_in 450 (by decide +kernel) rfl
set_option maxRecDepth 100000 in
theorem coC_stackKind : Cond.code (am_y jC_stackKind) (am_by jC_stackKind) (am_mx jC_stackKind) (am_ret jC_stackKind) ∈ am_T := wd_in 455 rfl rfl
theorem imC_stackKind : Cond.instanceMethod (am_y jC_stackKind) ∈ am_T := wd_in 453 (by decide +kernel) rfl
theorem seC_stackKind : Cond.selects (am_y jC_stackKind).cls (am_y jC_stackKind) (am_y jC_stackKind) ∈ am_T := wd_in 454 (by decide +kernel) rfl
set_option maxRecDepth 100000 in
theorem coC_localKind : Cond.code (am_y jC_localKind) (am_by jC_localKind) (am_mx jC_localKind) (am_ret jC_localKind) ∈ am_T := wd_in 459 rfl rfl
theorem imC_localKind : Cond.instanceMethod (am_y jC_localKind) ∈ am_T := wd_in 457 (by decide +kernel) rfl
theorem seC_localKind : Cond.selects (am_y jC_localKind).cls (am_y jC_localKind) (am_y jC_localKind) ∈ am_T := wd_in 458 (by decide +kernel) rfl
set_option maxRecDepth 100000 in
theorem coC_returnsAlone : Cond.code (am_y jC_returnsAlone) (am_by jC_returnsAlone) (am_mx jC_returnsAlone) (am_ret jC_returnsAlone) ∈ am_T := wd_in 684 rfl rfl
theorem imC_returnsAlone : Cond.instanceMethod (am_y jC_returnsAlone) ∈ am_T := wd_in 682 (by decide +kernel) rfl
theorem seC_returnsAlone : Cond.selects (am_y jC_returnsAlone).cls (am_y jC_returnsAlone) (am_y jC_returnsAlone) ∈ am_T := wd_in 683 (by decide +kernel) rfl
set_option maxRecDepth 100000 in
theorem coC_begin : Cond.code (am_y jC_begin) (am_by jC_begin) (am_mx jC_begin) (am_ret jC_begin) ∈ am_T := wd_in 386 rfl rfl
theorem imC_begin : Cond.instanceMethod (am_y jC_begin) ∈ am_T := wd_in 385 (by decide +kernel) rfl
theorem seC_begin : Cond.selects (am_y jC_begin).cls (am_y jC_begin) (am_y jC_begin) ∈ am_T := wd_ins (q := (am_y jC_begin, 10)) 1 (by decide +kernel)
set_option maxRecDepth 100000 in
theorem coC_goOnFrom : Cond.code (am_y jC_goOnFrom) (am_by jC_goOnFrom) (am_mx jC_goOnFrom) (am_ret jC_goOnFrom) ∈ am_T := wd_in 404 rfl rfl
theorem imC_goOnFrom : Cond.instanceMethod (am_y jC_goOnFrom) ∈ am_T := wd_in 403 (by decide +kernel) rfl
theorem seC_goOnFrom : Cond.selects (am_y jC_goOnFrom).cls (am_y jC_goOnFrom) (am_y jC_goOnFrom) ∈ am_T := wd_ins (q := (am_y jC_goOnFrom, 10)) 5 (by decide +kernel)
set_option maxRecDepth 100000 in
theorem coC_passArguments : Cond.code (am_y jC_passArguments) (am_by jC_passArguments) (am_mx jC_passArguments) (am_ret jC_passArguments) ∈ am_T := wd_in 412 rfl rfl
theorem imC_passArguments : Cond.instanceMethod (am_y jC_passArguments) ∈ am_T := wd_in 411 (by decide +kernel) rfl
theorem seC_passArguments : Cond.selects (am_y jC_passArguments).cls (am_y jC_passArguments) (am_y jC_passArguments) ∈ am_T := wd_ins (q := (am_y jC_passArguments, 10)) 6 (by decide +kernel)
set_option maxRecDepth 100000 in
theorem coC_takeAndGive : Cond.code (am_y jC_takeAndGive) (am_by jC_takeAndGive) (am_mx jC_takeAndGive) (am_ret jC_takeAndGive) ∈ am_T := wd_in 428 rfl rfl
theorem imC_takeAndGive : Cond.instanceMethod (am_y jC_takeAndGive) ∈ am_T := wd_in 427 (by decide +kernel) rfl
theorem seC_takeAndGive : Cond.selects (am_y jC_takeAndGive).cls (am_y jC_takeAndGive) (am_y jC_takeAndGive) ∈ am_T := wd_ins (q := (am_y jC_takeAndGive, 10)) 10 (by decide +kernel)
set_option maxRecDepth 100000 in
theorem coC_useLocal : Cond.code (am_y jC_useLocal) (am_by jC_useLocal) (am_mx jC_useLocal) (am_ret jC_useLocal) ∈ am_T := wd_in 432 rfl rfl
theorem imC_useLocal : Cond.instanceMethod (am_y jC_useLocal) ∈ am_T := wd_in 431 (by decide +kernel) rfl
theorem seC_useLocal : Cond.selects (am_y jC_useLocal).cls (am_y jC_useLocal) (am_y jC_useLocal) ∈ am_T := wd_ins (q := (am_y jC_useLocal, 10)) 11 (by decide +kernel)
set_option maxRecDepth 100000 in
theorem coC_useObject : Cond.code (am_y jC_useObject) (am_by jC_useObject) (am_mx jC_useObject) (am_ret jC_useObject) ∈ am_T := wd_in 436 rfl rfl
theorem imC_useObject : Cond.instanceMethod (am_y jC_useObject) ∈ am_T := wd_in 435 (by decide +kernel) rfl
theorem seC_useObject : Cond.selects (am_y jC_useObject).cls (am_y jC_useObject) (am_y jC_useObject) ∈ am_T := wd_ins (q := (am_y jC_useObject, 10)) 12 (by decide +kernel)
set_option maxRecDepth 100000 in
theorem coC_give : Cond.code (am_y jC_give) (am_by jC_give) (am_mx jC_give) (am_ret jC_give) ∈ am_T := wd_in 424 rfl rfl
theorem imC_give : Cond.instanceMethod (am_y jC_give) ∈ am_T := wd_in 423 (by decide +kernel) rfl
theorem seC_give : Cond.selects (am_y jC_give).cls (am_y jC_give) (am_y jC_give) ∈ am_T := wd_ins (q := (am_y jC_give, 10)) 9 (by decide +kernel)
set_option maxRecDepth 100000 in
theorem coC_takeAny : Cond.code (am_y jC_takeAny) (am_by jC_takeAny) (am_mx jC_takeAny) (am_ret jC_takeAny) ∈ am_T := wd_in 420 rfl rfl
theorem imC_takeAny : Cond.instanceMethod (am_y jC_takeAny) ∈ am_T := wd_in 419 (by decide +kernel) rfl
theorem seC_takeAny : Cond.selects (am_y jC_takeAny).cls (am_y jC_takeAny) (am_y jC_takeAny) ∈ am_T := wd_ins (q := (am_y jC_takeAny, 10)) 8 (by decide +kernel)
set_option maxRecDepth 100000 in
theorem coC_take : Cond.code (am_y jC_take) (am_by jC_take) (am_mx jC_take) (am_ret jC_take) ∈ am_T := wd_in 416 rfl rfl
theorem imC_take : Cond.instanceMethod (am_y jC_take) ∈ am_T := wd_in 415 (by decide +kernel) rfl
theorem seC_take : Cond.selects (am_y jC_take).cls (am_y jC_take) (am_y jC_take) ∈ am_T := wd_ins (q := (am_y jC_take, 10)) 7 (by decide +kernel)
set_option maxRecDepth 100000 in
theorem coC_leadOn : Cond.code (am_y jC_leadOn) (am_by jC_leadOn) (am_mx jC_leadOn) (am_ret jC_leadOn) ∈ am_T := wd_in 440 rfl rfl
theorem imC_leadOn : Cond.instanceMethod (am_y jC_leadOn) ∈ am_T := wd_in 439 (by decide +kernel) rfl
theorem seC_leadOn : Cond.selects (am_y jC_leadOn).cls (am_y jC_leadOn) (am_y jC_leadOn) ∈ am_T := wd_ins (q := (am_y jC_leadOn, 10)) 13 (by decide +kernel)
set_option maxRecDepth 100000 in
theorem coC_comeTo : Cond.code (am_y jC_comeTo) (am_by jC_comeTo) (am_mx jC_comeTo) (am_ret jC_comeTo) ∈ am_T := wd_in 390 rfl rfl
theorem imC_comeTo : Cond.instanceMethod (am_y jC_comeTo) ∈ am_T := wd_in 389 (by decide +kernel) rfl
theorem seC_comeTo : Cond.selects (am_y jC_comeTo).cls (am_y jC_comeTo) (am_y jC_comeTo) ∈ am_T := wd_ins (q := (am_y jC_comeTo, 10)) 2 (by decide +kernel)
set_option maxRecDepth 100000 in
theorem coC_meet : Cond.code (am_y jC_meet) (am_by jC_meet) (am_mx jC_meet) (am_ret jC_meet) ∈ am_T := wd_in 395 rfl rfl
theorem imC_meet : Cond.instanceMethod (am_y jC_meet) ∈ am_T := wd_in 394 (by decide +kernel) rfl
theorem seC_meet : Cond.selects (am_y jC_meet).cls (am_y jC_meet) (am_y jC_meet) ∈ am_T := wd_ins (q := (am_y jC_meet, 10)) 3 (by decide +kernel)
set_option maxRecDepth 100000 in
theorem coC_followBacksAgain : Cond.code (am_y jC_followBacksAgain) (am_by jC_followBacksAgain) (am_mx jC_followBacksAgain) (am_ret jC_followBacksAgain) ∈ am_T := wd_in 400 rfl rfl
theorem imC_followBacksAgain : Cond.instanceMethod (am_y jC_followBacksAgain) ∈ am_T := wd_in 399 (by decide +kernel) rfl
theorem seC_followBacksAgain : Cond.selects (am_y jC_followBacksAgain).cls (am_y jC_followBacksAgain) (am_y jC_followBacksAgain) ∈ am_T := wd_ins (q := (am_y jC_followBacksAgain, 10)) 4 (by decide +kernel)
set_option maxRecDepth 100000 in
theorem coA_init : Cond.code (am_y jA_init) (am_by jA_init) (am_mx jA_init) (am_ret jA_init) ∈ am_T := wd_in 159 rfl rfl
theorem imA_init : Cond.instanceMethod (am_y jA_init) ∈ am_T := wd_in 158 (by decide +kernel) rfl
set_option maxRecDepth 100000 in
theorem coA_begin : Cond.code (am_y jA_begin) (am_by jA_begin) (am_mx jA_begin) (am_ret jA_begin) ∈ am_T := wd_in 498 rfl rfl
theorem imA_begin : Cond.instanceMethod (am_y jA_begin) ∈ am_T := wd_in 496 (by decide +kernel) rfl
theorem seA_begin : Cond.selects (am_y jA_begin).cls (am_y jA_begin) (am_y jA_begin) ∈ am_T := wd_in 497 (by decide +kernel) rfl
set_option maxRecDepth 100000 in
theorem coA_goOnWith : Cond.code (am_y jA_goOnWith) (am_by jA_goOnWith) (am_mx jA_goOnWith) (am_ret jA_goOnWith) ∈ am_T := wd_in 587 rfl rfl
theorem imA_goOnWith : Cond.instanceMethod (am_y jA_goOnWith) ∈ am_T := wd_in 585 (by decide +kernel) rfl
theorem seA_goOnWith : Cond.selects (am_y jA_goOnWith).cls (am_y jA_goOnWith) (am_y jA_goOnWith) ∈ am_T := wd_in 586 (by decide +kernel) rfl
set_option maxRecDepth 100000 in
theorem coA_push : Cond.code (am_y jA_push) (am_by jA_push) (am_mx jA_push) (am_ret jA_push) ∈ am_T := wd_in 510 rfl rfl
theorem imA_push : Cond.instanceMethod (am_y jA_push) ∈ am_T := wd_in 508 (by decide +kernel) rfl
theorem seA_push : Cond.selects (am_y jA_push).cls (am_y jA_push) (am_y jA_push) ∈ am_T := wd_in 509 (by decide +kernel) rfl
set_option maxRecDepth 100000 in
theorem coA_pop : Cond.code (am_y jA_pop) (am_by jA_pop) (am_mx jA_pop) (am_ret jA_pop) ∈ am_T := wd_in 518 rfl rfl
theorem imA_pop : Cond.instanceMethod (am_y jA_pop) ∈ am_T := wd_in 516 (by decide +kernel) rfl
theorem seA_pop : Cond.selects (am_y jA_pop).cls (am_y jA_pop) (am_y jA_pop) ∈ am_T := wd_in 517 (by decide +kernel) rfl
set_option maxRecDepth 100000 in
theorem coL_init : Cond.code (am_y jL_init) (am_by jL_init) (am_mx jL_init) (am_ret jL_init) ∈ am_T := wd_in 241 rfl rfl
theorem imL_init : Cond.instanceMethod (am_y jL_init) ∈ am_T := wd_in 240 (by decide +kernel) rfl
set_option maxRecDepth 100000 in
theorem coL_clear : Cond.code (am_y jL_clear) (am_by jL_clear) (am_mx jL_clear) (am_ret jL_clear) ∈ am_T := wd_in 487 rfl rfl
theorem imL_clear : Cond.instanceMethod (am_y jL_clear) ∈ am_T := wd_in 485 (by decide +kernel) rfl
theorem seL_clear : Cond.selects (am_y jL_clear).cls (am_y jL_clear) (am_y jL_clear) ∈ am_T := wd_in 486 (by decide +kernel) rfl
set_option maxRecDepth 100000 in
theorem coL_note : Cond.code (am_y jL_note) (am_by jL_note) (am_mx jL_note) (am_ret jL_note) ∈ am_T := wd_in 502 rfl rfl
theorem imL_note : Cond.instanceMethod (am_y jL_note) ∈ am_T := wd_in 500 (by decide +kernel) rfl
theorem seL_note : Cond.selects (am_y jL_note).cls (am_y jL_note) (am_y jL_note) ∈ am_T := wd_in 501 (by decide +kernel) rfl
set_option maxRecDepth 100000 in
theorem coL_entriesKept : Cond.code (am_y jL_entriesKept) (am_by jL_entriesKept) (am_mx jL_entriesKept) (am_ret jL_entriesKept) ∈ am_T := wd_in 600 rfl rfl
theorem imL_entriesKept : Cond.instanceMethod (am_y jL_entriesKept) ∈ am_T := wd_in 598 (by decide +kernel) rfl
theorem seL_entriesKept : Cond.selects (am_y jL_entriesKept).cls (am_y jL_entriesKept) (am_y jL_entriesKept) ∈ am_T := wd_in 599 (by decide +kernel) rfl
set_option maxRecDepth 100000 in
theorem coL_sameEntries : Cond.code (am_y jL_sameEntries) (am_by jL_sameEntries) (am_mx jL_sameEntries) (am_ret jL_sameEntries) ∈ am_T := wd_in 611 rfl rfl
theorem imL_sameEntries : Cond.instanceMethod (am_y jL_sameEntries) ∈ am_T := wd_in 609 (by decide +kernel) rfl
theorem seL_sameEntries : Cond.selects (am_y jL_sameEntries).cls (am_y jL_sameEntries) (am_y jL_sameEntries) ∈ am_T := wd_in 610 (by decide +kernel) rfl
set_option maxRecDepth 100000 in
theorem coM_init : Cond.code (am_y jM_init) (am_by jM_init) (am_mx jM_init) (am_ret jM_init) ∈ am_T := wd_in 152 rfl rfl
theorem imM_init : Cond.instanceMethod (am_y jM_init) ∈ am_T := wd_in 151 (by decide +kernel) rfl
set_option maxRecDepth 100000 in
theorem coM_play : Cond.code (am_y jM_play) (am_by jM_play) (am_mx jM_play) (am_ret jM_play) ∈ am_T := wd_in 483 rfl rfl
theorem imM_play : Cond.instanceMethod (am_y jM_play) ∈ am_T := wd_in 481 (by decide +kernel) rfl
theorem seM_play : Cond.selects (am_y jM_play).cls (am_y jM_play) (am_y jM_play) ∈ am_T := wd_in 482 (by decide +kernel) rfl
set_option maxRecDepth 100000 in
theorem coM_openFrame : Cond.code (am_y jM_openFrame) (am_by jM_openFrame) (am_mx jM_openFrame) (am_ret jM_openFrame) ∈ am_T := wd_in 491 rfl rfl
theorem imM_openFrame : Cond.instanceMethod (am_y jM_openFrame) ∈ am_T := wd_in 490 (by decide +kernel) rfl
theorem seM_openFrame : Cond.selects (am_y jM_openFrame).cls (am_y jM_openFrame) (am_y jM_openFrame) ∈ am_T := wd_ins (q := (am_y jM_openFrame, 9)) 15 (by decide +kernel)
set_option maxRecDepth 100000 in
theorem coM_step : Cond.code (am_y jM_step) (am_by jM_step) (am_mx jM_step) (am_ret jM_step) ∈ am_T := wd_in 506 rfl rfl
theorem imM_step : Cond.instanceMethod (am_y jM_step) ∈ am_T := wd_in 505 (by decide +kernel) rfl
theorem seM_step : Cond.selects (am_y jM_step).cls (am_y jM_step) (am_y jM_step) ∈ am_T := wd_ins (q := (am_y jM_step, 9)) 16 (by decide +kernel)
set_option maxRecDepth 100000 in
theorem coM_useLocal : Cond.code (am_y jM_useLocal) (am_by jM_useLocal) (am_mx jM_useLocal) (am_ret jM_useLocal) ∈ am_T := wd_in 514 rfl rfl
theorem imM_useLocal : Cond.instanceMethod (am_y jM_useLocal) ∈ am_T := wd_in 513 (by decide +kernel) rfl
theorem seM_useLocal : Cond.selects (am_y jM_useLocal).cls (am_y jM_useLocal) (am_y jM_useLocal) ∈ am_T := wd_ins (q := (am_y jM_useLocal, 9)) 17 (by decide +kernel)
set_option maxRecDepth 100000 in
theorem coM_shuffle : Cond.code (am_y jM_shuffle) (am_by jM_shuffle) (am_mx jM_shuffle) (am_ret jM_shuffle) ∈ am_T := wd_in 558 rfl rfl
theorem imM_shuffle : Cond.instanceMethod (am_y jM_shuffle) ∈ am_T := wd_in 557 (by decide +kernel) rfl
theorem seM_shuffle : Cond.selects (am_y jM_shuffle).cls (am_y jM_shuffle) (am_y jM_shuffle) ∈ am_T := wd_ins (q := (am_y jM_shuffle, 9)) 26 (by decide +kernel)
set_option maxRecDepth 100000 in
theorem coM_reckon : Cond.code (am_y jM_reckon) (am_by jM_reckon) (am_mx jM_reckon) (am_ret jM_reckon) ∈ am_T := wd_in 554 rfl rfl
theorem imM_reckon : Cond.instanceMethod (am_y jM_reckon) ∈ am_T := wd_in 553 (by decide +kernel) rfl
theorem seM_reckon : Cond.selects (am_y jM_reckon).cls (am_y jM_reckon) (am_y jM_reckon) ∈ am_T := wd_ins (q := (am_y jM_reckon, 9)) 25 (by decide +kernel)
set_option maxRecDepth 100000 in
theorem coM_turn : Cond.code (am_y jM_turn) (am_by jM_turn) (am_mx jM_turn) (am_ret jM_turn) ∈ am_T := wd_in 526 rfl rfl
theorem imM_turn : Cond.instanceMethod (am_y jM_turn) ∈ am_T := wd_in 525 (by decide +kernel) rfl
theorem seM_turn : Cond.selects (am_y jM_turn).cls (am_y jM_turn) (am_y jM_turn) ∈ am_T := wd_ins (q := (am_y jM_turn, 9)) 19 (by decide +kernel)
set_option maxRecDepth 100000 in
theorem coM_holds : Cond.code (am_y jM_holds) (am_by jM_holds) (am_mx jM_holds) (am_ret jM_holds) ∈ am_T := wd_in 529 rfl rfl
theorem stM_holds : Cond.static (am_y jM_holds) ∈ am_T := wd_in 528 (by decide +kernel) rfl
set_option maxRecDepth 100000 in
theorem coM_useObject : Cond.code (am_y jM_useObject) (am_by jM_useObject) (am_mx jM_useObject) (am_ret jM_useObject) ∈ am_T := wd_in 562 rfl rfl
theorem imM_useObject : Cond.instanceMethod (am_y jM_useObject) ∈ am_T := wd_in 561 (by decide +kernel) rfl
theorem seM_useObject : Cond.selects (am_y jM_useObject).cls (am_y jM_useObject) (am_y jM_useObject) ∈ am_T := wd_ins (q := (am_y jM_useObject, 9)) 27 (by decide +kernel)
set_option maxRecDepth 100000 in
theorem coM_enterLock : Cond.code (am_y jM_enterLock) (am_by jM_enterLock) (am_mx jM_enterLock) (am_ret jM_enterLock) ∈ am_T := wd_in 566 rfl rfl
theorem imM_enterLock : Cond.instanceMethod (am_y jM_enterLock) ∈ am_T := wd_in 565 (by decide +kernel) rfl
theorem seM_enterLock : Cond.selects (am_y jM_enterLock).cls (am_y jM_enterLock) (am_y jM_enterLock) ∈ am_T := wd_ins (q := (am_y jM_enterLock, 9)) 28 (by decide +kernel)
set_option maxRecDepth 100000 in
theorem coM_leaveLock : Cond.code (am_y jM_leaveLock) (am_by jM_leaveLock) (am_mx jM_leaveLock) (am_ret jM_leaveLock) ∈ am_T := wd_in 570 rfl rfl
theorem imM_leaveLock : Cond.instanceMethod (am_y jM_leaveLock) ∈ am_T := wd_in 569 (by decide +kernel) rfl
theorem seM_leaveLock : Cond.selects (am_y jM_leaveLock).cls (am_y jM_leaveLock) (am_y jM_leaveLock) ∈ am_T := wd_ins (q := (am_y jM_leaveLock, 9)) 29 (by decide +kernel)
set_option maxRecDepth 100000 in
theorem coM_make : Cond.code (am_y jM_make) (am_by jM_make) (am_mx jM_make) (am_ret jM_make) ∈ am_T := wd_in 522 rfl rfl
theorem imM_make : Cond.instanceMethod (am_y jM_make) ∈ am_T := wd_in 521 (by decide +kernel) rfl
theorem seM_make : Cond.selects (am_y jM_make).cls (am_y jM_make) (am_y jM_make) ∈ am_T := wd_ins (q := (am_y jM_make, 9)) 18 (by decide +kernel)
set_option maxRecDepth 100000 in
theorem coM_throwNew : Cond.code (am_y jM_throwNew) (am_by jM_throwNew) (am_mx jM_throwNew) (am_ret jM_throwNew) ∈ am_T := wd_in 537 rfl rfl
theorem imM_throwNew : Cond.instanceMethod (am_y jM_throwNew) ∈ am_T := wd_in 536 (by decide +kernel) rfl
theorem seM_throwNew : Cond.selects (am_y jM_throwNew).cls (am_y jM_throwNew) (am_y jM_throwNew) ∈ am_T := wd_ins (q := (am_y jM_throwNew, 9)) 21 (by decide +kernel)
set_option maxRecDepth 100000 in
theorem coM_throwObject : Cond.code (am_y jM_throwObject) (am_by jM_throwObject) (am_mx jM_throwObject) (am_ret jM_throwObject) ∈ am_T := wd_in 541 rfl rfl
theorem imM_throwObject : Cond.instanceMethod (am_y jM_throwObject) ∈ am_T := wd_in 540 (by decide +kernel) rfl
theorem seM_throwObject : Cond.selects (am_y jM_throwObject).cls (am_y jM_throwObject) (am_y jM_throwObject) ∈ am_T := wd_ins (q := (am_y jM_throwObject, 9)) 22 (by decide +kernel)
set_option maxRecDepth 100000 in
theorem coM_beginCall : Cond.code (am_y jM_beginCall) (am_by jM_beginCall) (am_mx jM_beginCall) (am_ret jM_beginCall) ∈ am_T := wd_in 533 rfl rfl
theorem imM_beginCall : Cond.instanceMethod (am_y jM_beginCall) ∈ am_T := wd_in 532 (by decide +kernel) rfl
theorem seM_beginCall : Cond.selects (am_y jM_beginCall).cls (am_y jM_beginCall) (am_y jM_beginCall) ∈ am_T := wd_ins (q := (am_y jM_beginCall, 9)) 20 (by decide +kernel)
set_option maxRecDepth 100000 in
theorem coM_giveBack : Cond.code (am_y jM_giveBack) (am_by jM_giveBack) (am_mx jM_giveBack) (am_ret jM_giveBack) ∈ am_T := wd_in 549 rfl rfl
theorem imM_giveBack : Cond.instanceMethod (am_y jM_giveBack) ∈ am_T := wd_in 548 (by decide +kernel) rfl
theorem seM_giveBack : Cond.selects (am_y jM_giveBack).cls (am_y jM_giveBack) (am_y jM_giveBack) ∈ am_T := wd_ins (q := (am_y jM_giveBack, 9)) 24 (by decide +kernel)
set_option maxRecDepth 100000 in
theorem coM_closeFrame : Cond.code (am_y jM_closeFrame) (am_by jM_closeFrame) (am_mx jM_closeFrame) (am_ret jM_closeFrame) ∈ am_T := wd_in 545 rfl rfl
theorem imM_closeFrame : Cond.instanceMethod (am_y jM_closeFrame) ∈ am_T := wd_in 544 (by decide +kernel) rfl
theorem seM_closeFrame : Cond.selects (am_y jM_closeFrame).cls (am_y jM_closeFrame) (am_y jM_closeFrame) ∈ am_T := wd_ins (q := (am_y jM_closeFrame, 9)) 23 (by decide +kernel)
set_option maxRecDepth 100000 in
theorem coM_findRow : Cond.code (am_y jM_findRow) (am_by jM_findRow) (am_mx jM_findRow) (am_ret jM_findRow) ∈ am_T := wd_in 575 rfl rfl
theorem imM_findRow : Cond.instanceMethod (am_y jM_findRow) ∈ am_T := wd_in 574 (by decide +kernel) rfl
theorem seM_findRow : Cond.selects (am_y jM_findRow).cls (am_y jM_findRow) (am_y jM_findRow) ∈ am_T := wd_ins (q := (am_y jM_findRow, 9)) 30 (by decide +kernel)
set_option maxRecDepth 100000 in
theorem coE_init : Cond.code (am_y jE_init) (am_by jE_init) (am_mx jE_init) (am_ret jE_init) ∈ am_T := wd_in 32 rfl rfl
theorem imE_init : Cond.instanceMethod (am_y jE_init) ∈ am_T := wd_in 31 (by decide +kernel) rfl
set_option maxRecDepth 100000 in
theorem coE_begin : Cond.code (am_y jE_begin) (am_by jE_begin) (am_mx jE_begin) (am_ret jE_begin) ∈ am_T := wd_in 326 rfl rfl
theorem imE_begin : Cond.instanceMethod (am_y jE_begin) ∈ am_T := wd_in 324 (by decide +kernel) rfl
theorem seE_begin : Cond.selects (am_y jE_begin).cls (am_y jE_begin) (am_y jE_begin) ∈ am_T := wd_in 325 (by decide +kernel) rfl
set_option maxRecDepth 100000 in
theorem coE_become : Cond.code (am_y jE_become) (am_by jE_become) (am_mx jE_become) (am_ret jE_become) ∈ am_T := wd_in 322 rfl rfl
theorem imE_become : Cond.instanceMethod (am_y jE_become) ∈ am_T := wd_in 320 (by decide +kernel) rfl
theorem seE_become : Cond.selects (am_y jE_become).cls (am_y jE_become) (am_y jE_become) ∈ am_T := wd_in 321 (by decide +kernel) rfl
set_option maxRecDepth 100000 in
theorem coE_put : Cond.code (am_y jE_put) (am_by jE_put) (am_mx jE_put) (am_ret jE_put) ∈ am_T := wd_in 360 rfl rfl
theorem imE_put : Cond.instanceMethod (am_y jE_put) ∈ am_T := wd_in 358 (by decide +kernel) rfl
theorem seE_put : Cond.selects (am_y jE_put).cls (am_y jE_put) (am_y jE_put) ∈ am_T := wd_in 359 (by decide +kernel) rfl
set_option maxRecDepth 100000 in
theorem coE_addRow : Cond.code (am_y jE_addRow) (am_by jE_addRow) (am_mx jE_addRow) (am_ret jE_addRow) ∈ am_T := wd_in 374 rfl rfl
theorem imE_addRow : Cond.instanceMethod (am_y jE_addRow) ∈ am_T := wd_in 372 (by decide +kernel) rfl
theorem seE_addRow : Cond.selects (am_y jE_addRow).cls (am_y jE_addRow) (am_y jE_addRow) ∈ am_T := wd_in 373 (by decide +kernel) rfl
set_option maxRecDepth 100000 in
theorem coE_hasAt : Cond.code (am_y jE_hasAt) (am_by jE_hasAt) (am_mx jE_hasAt) (am_ret jE_hasAt) ∈ am_T := wd_in 624 rfl rfl
theorem imE_hasAt : Cond.instanceMethod (am_y jE_hasAt) ∈ am_T := wd_in 622 (by decide +kernel) rfl
theorem seE_hasAt : Cond.selects (am_y jE_hasAt).cls (am_y jE_hasAt) (am_y jE_hasAt) ∈ am_T := wd_in 623 (by decide +kernel) rfl
set_option maxRecDepth 100000 in
theorem coE_rowCovers : Cond.code (am_y jE_rowCovers) (am_by jE_rowCovers) (am_mx jE_rowCovers) (am_ret jE_rowCovers) ∈ am_T := wd_in 408 rfl rfl
theorem imE_rowCovers : Cond.instanceMethod (am_y jE_rowCovers) ∈ am_T := wd_in 406 (by decide +kernel) rfl
theorem seE_rowCovers : Cond.selects (am_y jE_rowCovers).cls (am_y jE_rowCovers) (am_y jE_rowCovers) ∈ am_T := wd_in 407 (by decide +kernel) rfl
set_option maxRecDepth 100000 in
theorem coE_rowFor : Cond.code (am_y jE_rowFor) (am_by jE_rowFor) (am_mx jE_rowFor) (am_ret jE_rowFor) ∈ am_T := wd_in 579 rfl rfl
theorem imE_rowFor : Cond.instanceMethod (am_y jE_rowFor) ∈ am_T := wd_in 577 (by decide +kernel) rfl
theorem seE_rowFor : Cond.selects (am_y jE_rowFor).cls (am_y jE_rowFor) (am_y jE_rowFor) ∈ am_T := wd_in 578 (by decide +kernel) rfl
set_option maxRecDepth 100000 in
theorem coE_rowPart : Cond.code (am_y jE_rowPart) (am_by jE_rowPart) (am_mx jE_rowPart) (am_ret jE_rowPart) ∈ am_T := wd_in 710 rfl rfl
theorem imE_rowPart : Cond.instanceMethod (am_y jE_rowPart) ∈ am_T := wd_in 708 (by decide +kernel) rfl
theorem seE_rowPart : Cond.selects (am_y jE_rowPart).cls (am_y jE_rowPart) (am_y jE_rowPart) ∈ am_T := wd_in 709 (by decide +kernel) rfl
set_option maxRecDepth 100000 in
theorem coE_fact : Cond.code (am_y jE_fact) (am_by jE_fact) (am_mx jE_fact) (am_ret jE_fact) ∈ am_T := wd_in 706 rfl rfl
theorem imE_fact : Cond.instanceMethod (am_y jE_fact) ∈ am_T := wd_in 704 (by decide +kernel) rfl
theorem seE_fact : Cond.selects (am_y jE_fact).cls (am_y jE_fact) (am_y jE_fact) ∈ am_T := wd_in 705 (by decide +kernel) rfl
set_option maxRecDepth 100000 in
theorem coE_calls : Cond.code (am_y jE_calls) (am_by jE_calls) (am_mx jE_calls) (am_ret jE_calls) ∈ am_T := wd_in 478 rfl rfl
theorem imE_calls : Cond.instanceMethod (am_y jE_calls) ∈ am_T := wd_in 476 (by decide +kernel) rfl
theorem seE_calls : Cond.selects (am_y jE_calls).cls (am_y jE_calls) (am_y jE_calls) ∈ am_T := wd_in 477 (by decide +kernel) rfl
set_option maxRecDepth 100000 in
theorem coE_greatestLocal : Cond.code (am_y jE_greatestLocal) (am_by jE_greatestLocal) (am_mx jE_greatestLocal) (am_ret jE_greatestLocal) ∈ am_T := wd_in 679 rfl rfl
theorem imE_greatestLocal : Cond.instanceMethod (am_y jE_greatestLocal) ∈ am_T := wd_in 677 (by decide +kernel) rfl
theorem seE_greatestLocal : Cond.selects (am_y jE_greatestLocal).cls (am_y jE_greatestLocal) (am_y jE_greatestLocal) ∈ am_T := wd_in 678 (by decide +kernel) rfl
set_option maxRecDepth 100000 in
theorem coE_hasLocksOrSubroutines : Cond.code (am_y jE_hasLocksOrSubroutines) (am_by jE_hasLocksOrSubroutines) (am_mx jE_hasLocksOrSubroutines) (am_ret jE_hasLocksOrSubroutines) ∈ am_T := wd_in 675 rfl rfl
theorem imE_hasLocksOrSubroutines : Cond.instanceMethod (am_y jE_hasLocksOrSubroutines) ∈ am_T := wd_in 673 (by decide +kernel) rfl
theorem seE_hasLocksOrSubroutines : Cond.selects (am_y jE_hasLocksOrSubroutines).cls (am_y jE_hasLocksOrSubroutines) (am_y jE_hasLocksOrSubroutines) ∈ am_T := wd_in 674 (by decide +kernel) rfl
set_option maxRecDepth 100000 in
theorem coE_plainEnd : Cond.code (am_y jE_plainEnd) (am_by jE_plainEnd) (am_mx jE_plainEnd) (am_ret jE_plainEnd) ∈ am_T := wd_in 629 rfl rfl
theorem imE_plainEnd : Cond.instanceMethod (am_y jE_plainEnd) ∈ am_T := wd_in 627 (by decide +kernel) rfl
theorem seE_plainEnd : Cond.selects (am_y jE_plainEnd).cls (am_y jE_plainEnd) (am_y jE_plainEnd) ∈ am_T := wd_in 628 (by decide +kernel) rfl
set_option maxRecDepth 100000 in
theorem coE_keepsPlain : Cond.code (am_y jE_keepsPlain) (am_by jE_keepsPlain) (am_mx jE_keepsPlain) (am_ret jE_keepsPlain) ∈ am_T := wd_in 634 rfl rfl
theorem imE_keepsPlain : Cond.instanceMethod (am_y jE_keepsPlain) ∈ am_T := wd_in 633 (by decide +kernel) rfl
theorem seE_keepsPlain : Cond.selects (am_y jE_keepsPlain).cls (am_y jE_keepsPlain) (am_y jE_keepsPlain) ∈ am_T := wd_ins (q := (am_y jE_keepsPlain, 11)) 31 (by decide +kernel)
set_option maxRecDepth 100000 in
theorem coE_leadsInto : Cond.code (am_y jE_leadsInto) (am_by jE_leadsInto) (am_mx jE_leadsInto) (am_ret jE_leadsInto) ∈ am_T := wd_in 639 rfl rfl
theorem imE_leadsInto : Cond.instanceMethod (am_y jE_leadsInto) ∈ am_T := wd_in 638 (by decide +kernel) rfl
theorem seE_leadsInto : Cond.selects (am_y jE_leadsInto).cls (am_y jE_leadsInto) (am_y jE_leadsInto) ∈ am_T := wd_ins (q := (am_y jE_leadsInto, 11)) 32 (by decide +kernel)
set_option maxRecDepth 100000 in
theorem coP_init : Cond.code (am_y jP_init) (am_by jP_init) (am_mx jP_init) (am_ret jP_init) ∈ am_T := wd_in 25 rfl rfl
theorem imP_init : Cond.instanceMethod (am_y jP_init) ∈ am_T := wd_in 24 (by decide +kernel) rfl
set_option maxRecDepth 100000 in
theorem coP_become : Cond.code (am_y jP_become) (am_by jP_become) (am_mx jP_become) (am_ret jP_become) ∈ am_T := wd_in 318 rfl rfl
theorem imP_become : Cond.instanceMethod (am_y jP_become) ∈ am_T := wd_in 316 (by decide +kernel) rfl
theorem seP_become : Cond.selects (am_y jP_become).cls (am_y jP_become) (am_y jP_become) ∈ am_T := wd_in 317 (by decide +kernel) rfl
set_option maxRecDepth 100000 in
theorem coP_instructions : Cond.code (am_y jP_instructions) (am_by jP_instructions) (am_mx jP_instructions) (am_ret jP_instructions) ∈ am_T := wd_in 333 rfl rfl
theorem imP_instructions : Cond.instanceMethod (am_y jP_instructions) ∈ am_T := wd_in 331 (by decide +kernel) rfl
theorem seP_instructions : Cond.selects (am_y jP_instructions).cls (am_y jP_instructions) (am_y jP_instructions) ∈ am_T := wd_in 332 (by decide +kernel) rfl
set_option maxRecDepth 100000 in
theorem coP_calledFrom : Cond.code (am_y jP_calledFrom) (am_by jP_calledFrom) (am_mx jP_calledFrom) (am_ret jP_calledFrom) ∈ am_T := wd_in 471 rfl rfl
theorem imP_calledFrom : Cond.instanceMethod (am_y jP_calledFrom) ∈ am_T := wd_in 469 (by decide +kernel) rfl
theorem seP_calledFrom : Cond.selects (am_y jP_calledFrom).cls (am_y jP_calledFrom) (am_y jP_calledFrom) ∈ am_T := wd_in 470 (by decide +kernel) rfl
set_option maxRecDepth 100000 in
theorem coW_init : Cond.code (am_y jW_init) (am_by jW_init) (am_mx jW_init) (am_ret jW_init) ∈ am_T := wd_in 220 rfl rfl
theorem imW_init : Cond.instanceMethod (am_y jW_init) ∈ am_T := wd_in 219 (by decide +kernel) rfl
set_option maxRecDepth 100000 in
theorem coW_writeOutSubroutine : Cond.code (am_y jW_writeOutSubroutine) (am_by jW_writeOutSubroutine) (am_mx jW_writeOutSubroutine) (am_ret jW_writeOutSubroutine) ∈ am_T := wd_in 620 rfl rfl
theorem imW_writeOutSubroutine : Cond.instanceMethod (am_y jW_writeOutSubroutine) ∈ am_T := wd_in 618 (by decide +kernel) rfl
theorem seW_writeOutSubroutine : Cond.selects (am_y jW_writeOutSubroutine).cls (am_y jW_writeOutSubroutine) (am_y jW_writeOutSubroutine) ∈ am_T := wd_in 619 (by decide +kernel) rfl
set_option maxRecDepth 100000 in
theorem coW_writeOutCall : Cond.code (am_y jW_writeOutCall) (am_by jW_writeOutCall) (am_mx jW_writeOutCall) (am_ret jW_writeOutCall) ∈ am_T := wd_in 689 rfl rfl
theorem imW_writeOutCall : Cond.instanceMethod (am_y jW_writeOutCall) ∈ am_T := wd_in 687 (by decide +kernel) rfl
theorem seW_writeOutCall : Cond.selects (am_y jW_writeOutCall).cls (am_y jW_writeOutCall) (am_y jW_writeOutCall) ∈ am_T := wd_in 688 (by decide +kernel) rfl
set_option maxRecDepth 100000 in
theorem coW_putCalled : Cond.code (am_y jW_putCalled) (am_by jW_putCalled) (am_mx jW_putCalled) (am_ret jW_putCalled) ∈ am_T := wd_in 694 rfl rfl
theorem imW_putCalled : Cond.instanceMethod (am_y jW_putCalled) ∈ am_T := wd_in 693 (by decide +kernel) rfl
theorem seW_putCalled : Cond.selects (am_y jW_putCalled).cls (am_y jW_putCalled) (am_y jW_putCalled) ∈ am_T := wd_ins (q := (am_y jW_putCalled, 4)) 38 (by decide +kernel)
set_option maxRecDepth 100000 in
theorem coW_spread : Cond.code (am_y jW_spread) (am_by jW_spread) (am_mx jW_spread) (am_ret jW_spread) ∈ am_T := wd_in 643 rfl rfl
theorem imW_spread : Cond.instanceMethod (am_y jW_spread) ∈ am_T := wd_in 642 (by decide +kernel) rfl
theorem seW_spread : Cond.selects (am_y jW_spread).cls (am_y jW_spread) (am_y jW_spread) ∈ am_T := wd_ins (q := (am_y jW_spread, 4)) 33 (by decide +kernel)
set_option maxRecDepth 100000 in
theorem coW_moved : Cond.code (am_y jW_moved) (am_by jW_moved) (am_mx jW_moved) (am_ret jW_moved) ∈ am_T := wd_in 649 rfl rfl
theorem imW_moved : Cond.instanceMethod (am_y jW_moved) ∈ am_T := wd_in 648 (by decide +kernel) rfl
theorem seW_moved : Cond.selects (am_y jW_moved).cls (am_y jW_moved) (am_y jW_moved) ∈ am_T := wd_ins (q := (am_y jW_moved, 4)) 34 (by decide +kernel)
set_option maxRecDepth 100000 in
theorem coW_splitRow : Cond.code (am_y jW_splitRow) (am_by jW_splitRow) (am_mx jW_splitRow) (am_ret jW_splitRow) ∈ am_T := wd_in 654 rfl rfl
theorem imW_splitRow : Cond.instanceMethod (am_y jW_splitRow) ∈ am_T := wd_in 653 (by decide +kernel) rfl
theorem seW_splitRow : Cond.selects (am_y jW_splitRow).cls (am_y jW_splitRow) (am_y jW_splitRow) ∈ am_T := wd_ins (q := (am_y jW_splitRow, 4)) 35 (by decide +kernel)
set_option maxRecDepth 100000 in
theorem coW_draftRow : Cond.code (am_y jW_draftRow) (am_by jW_draftRow) (am_mx jW_draftRow) (am_ret jW_draftRow) ∈ am_T := wd_in 659 rfl rfl
theorem imW_draftRow : Cond.instanceMethod (am_y jW_draftRow) ∈ am_T := wd_in 658 (by decide +kernel) rfl
theorem seW_draftRow : Cond.selects (am_y jW_draftRow).cls (am_y jW_draftRow) (am_y jW_draftRow) ∈ am_T := wd_ins (q := (am_y jW_draftRow, 4)) 36 (by decide +kernel)
set_option maxRecDepth 100000 in
theorem coW_takeOver : Cond.code (am_y jW_takeOver) (am_by jW_takeOver) (am_mx jW_takeOver) (am_ret jW_takeOver) ∈ am_T := wd_in 665 rfl rfl
theorem imW_takeOver : Cond.instanceMethod (am_y jW_takeOver) ∈ am_T := wd_in 664 (by decide +kernel) rfl
theorem seW_takeOver : Cond.selects (am_y jW_takeOver).cls (am_y jW_takeOver) (am_y jW_takeOver) ∈ am_T := wd_ins (q := (am_y jW_takeOver, 4)) 37 (by decide +kernel)
theorem inF : Cond.initialized "FrameForge" ∈ am_T := wd_in 1 (by decide +kernel) rfl
theorem inE : Cond.initialized "FrameForge$Method" ∈ am_T := wd_in 3 (by decide +kernel) rfl
theorem inP : Cond.initialized "FrameForge$Program" ∈ am_T := wd_in 2 (by decide +kernel) rfl
theorem inC : Cond.initialized "FrameForge$Checker" ∈ am_T := wd_in 4 (by decide +kernel) rfl
theorem inL : Cond.initialized "FrameForge$Ledger" ∈ am_T := wd_in 8 (by decide +kernel) rfl
theorem inA : Cond.initialized "FrameForge$Frame" ∈ am_T := wd_in 6 (by decide +kernel) rfl
theorem inM : Cond.initialized "FrameForge$Machine" ∈ am_T := wd_in 5 (by decide +kernel) rfl
theorem inW : Cond.initialized "FrameForge$Rewriter" ∈ am_T := wd_in 7 (by decide +kernel) rfl
theorem inR : Cond.initialized "FrameForgeModel" ∈ am_T := wd_in 9 (by decide +kernel) rfl
theorem lkF_1 : Cond.methodLink "FrameForge" 1 objectInit ∈ am_T := wd_in 17 (by decide +kernel) rfl
theorem csF_15 : am_Cs "FrameForge" 15 jP_init 0 := ⟨coP_init, inP, by decide +kernel, by decide, Or.inl (wd_in 23 (by decide +kernel) rfl)⟩
theorem csF_18 : am_Cs "FrameForge" 18 jC_init 0 := ⟨coC_init, inC, by decide +kernel, by decide, Or.inr ⟨"FrameForge", by decide +kernel⟩⟩
theorem csF_25 : am_Cs "FrameForge" 25 jM_init 0 := ⟨coM_init, inM, by decide +kernel, by decide, Or.inl (wd_in 150 (by decide +kernel) rfl)⟩
theorem csF_32 : am_Cs "FrameForge" 32 jW_init 0 := ⟨coW_init, inW, by decide +kernel, by decide, Or.inr ⟨"FrameForge", by decide +kernel⟩⟩
theorem csF_39 : am_Cs "FrameForge" 39 jL_init 0 := ⟨coL_init, inL, by decide +kernel, by decide, Or.inr ⟨"FrameForge", by decide +kernel⟩⟩
theorem csF_51 : am_Cs "FrameForge" 51 jF_isBelow 2 := ⟨coF_isBelow, inF, by decide +kernel, by decide, Or.inl (wd_in 308 (by decide +kernel) rfl)⟩
theorem csF_55 : am_Cs "FrameForge" 55 jP_become 1 := ⟨coP_become, inP, by decide +kernel, by decide, Or.inl (wd_in 315 (by decide +kernel) rfl)⟩
theorem csF_59 : am_Cs "FrameForge" 59 jP_instructions 0 := ⟨coP_instructions, inP, by decide +kernel, by decide, Or.inl (wd_in 330 (by decide +kernel) rfl)⟩
theorem csF_63 : am_Cs "FrameForge" 63 jF_writtenMethod 1 := ⟨coF_writtenMethod, inF, by decide +kernel, by decide, Or.inl (wd_in 338 (by decide +kernel) rfl)⟩
theorem csF_67 : am_Cs "FrameForge" 67 jE_begin 2 := ⟨coE_begin, inE, by decide +kernel, by decide, Or.inl (wd_in 342 (by decide +kernel) rfl)⟩
theorem csF_73 : am_Cs "FrameForge" 73 jF_isInstruction 3 := ⟨coF_isInstruction, inF, by decide +kernel, by decide, Or.inl (wd_in 347 (by decide +kernel) rfl)⟩
theorem csF_80 : am_Cs "FrameForge" 80 jE_put 4 := ⟨coE_put, inE, by decide +kernel, by decide, Or.inl (wd_in 357 (by decide +kernel) rfl)⟩
theorem csF_84 : am_Cs "FrameForge" 84 jE_addRow 4 := ⟨coE_addRow, inE, by decide +kernel, by decide, Or.inl (wd_in 371 (by decide +kernel) rfl)⟩
theorem csF_91 : am_Cs "FrameForge" 91 jC_follow 2 := ⟨coC_follow, inC, by decide +kernel, by decide, Or.inl (wd_in 379 (by decide +kernel) rfl)⟩
theorem csF_98 : am_Cs "FrameForge" 98 jC_comesTo 1 := ⟨coC_comesTo, inC, by decide +kernel, by decide, Or.inl (wd_in 448 (by decide +kernel) rfl)⟩
theorem csF_106 : am_Cs "FrameForge" 106 jC_stackKind 2 := ⟨coC_stackKind, inC, by decide +kernel, by decide, Or.inl (wd_in 452 (by decide +kernel) rfl)⟩
theorem csF_110 : am_Cs "FrameForge" 110 jC_localKind 2 := ⟨coC_localKind, inC, by decide +kernel, by decide, Or.inl (wd_in 456 (by decide +kernel) rfl)⟩
theorem csF_113 : am_Cs "FrameForge" 113 jF_allSound 2 := ⟨coF_allSound, inF, by decide +kernel, by decide, Or.inl (wd_in 464 (by decide +kernel) rfl)⟩
theorem csF_116 : am_Cs "FrameForge" 116 jM_play 7 := ⟨coM_play, inM, by decide +kernel, by decide, Or.inl (wd_in 480 (by decide +kernel) rfl)⟩
theorem csF_141 : am_Cs "FrameForge" 141 jL_entriesKept 0 := ⟨coL_entriesKept, inL, by decide +kernel, by decide, Or.inl (wd_in 597 (by decide +kernel) rfl)⟩
theorem csF_147 : am_Cs "FrameForge" 147 jL_sameEntries 1 := ⟨coL_sameEntries, inL, by decide +kernel, by decide, Or.inl (wd_in 608 (by decide +kernel) rfl)⟩
theorem csF_151 : am_Cs "FrameForge" 151 jW_writeOutSubroutine 2 := ⟨coW_writeOutSubroutine, inW, by decide +kernel, by decide, Or.inl (wd_in 617 (by decide +kernel) rfl)⟩
theorem csF_155 : am_Cs "FrameForge" 155 jE_hasAt 2 := ⟨coE_hasAt, inE, by decide +kernel, by decide, Or.inl (wd_in 671 (by decide +kernel) rfl)⟩
theorem csF_168 : am_Cs "FrameForge" 168 jE_hasLocksOrSubroutines 0 := ⟨coE_hasLocksOrSubroutines, inE, by decide +kernel, by decide, Or.inl (wd_in 672 (by decide +kernel) rfl)⟩
theorem csF_172 : am_Cs "FrameForge" 172 jE_greatestLocal 0 := ⟨coE_greatestLocal, inE, by decide +kernel, by decide, Or.inl (wd_in 676 (by decide +kernel) rfl)⟩
theorem csF_175 : am_Cs "FrameForge" 175 jC_returnsAlone 1 := ⟨coC_returnsAlone, inC, by decide +kernel, by decide, Or.inl (wd_in 681 (by decide +kernel) rfl)⟩
theorem csF_179 : am_Cs "FrameForge" 179 jW_writeOutCall 3 := ⟨coW_writeOutCall, inW, by decide +kernel, by decide, Or.inl (wd_in 686 (by decide +kernel) rfl)⟩
theorem csF_189 : am_Cs "FrameForge" 189 jE_fact 1 := ⟨coE_fact, inE, by decide +kernel, by decide, Or.inl (wd_in 703 (by decide +kernel) rfl)⟩
theorem csF_193 : am_Cs "FrameForge" 193 jE_rowPart 2 := ⟨coE_rowPart, inE, by decide +kernel, by decide, Or.inl (wd_in 707 (by decide +kernel) rfl)⟩
theorem csF_200 : am_Cs "FrameForge" 200 jP_calledFrom 1 := ⟨coP_calledFrom, inP, by decide +kernel, by decide, Or.inl (wd_in 468 (by decide +kernel) rfl)⟩
theorem csF_203 : am_Cs "FrameForge" 203 jF_hasBit 2 := ⟨coF_hasBit, inF, by decide +kernel, by decide, Or.inl (wd_in 479 (by decide +kernel) rfl)⟩
theorem csF_209 : am_Cs "FrameForge" 209 jF_isOperand 2 := ⟨coF_isOperand, inF, by decide +kernel, by decide, Or.inl (wd_in 352 (by decide +kernel) rfl)⟩
theorem lkC_3 : Cond.methodLink "FrameForge$Checker" 3 objectInit ∈ am_T := wd_in 113 (by decide +kernel) rfl
theorem csC_37 : am_Cs "FrameForge$Checker" 37 jC_begin 1 := ⟨coC_begin, inC, by decide +kernel, by decide, Or.inl (wd_in 383 (by decide +kernel) rfl)⟩
theorem csC_49 : am_Cs "FrameForge$Checker" 49 jC_goOnFrom 3 := ⟨coC_goOnFrom, inC, by decide +kernel, by decide, Or.inl (wd_in 401 (by decide +kernel) rfl)⟩
theorem csC_53 : am_Cs "FrameForge$Checker" 53 jF_isBelow 2 := ⟨coF_isBelow, inF, by decide +kernel, by decide, Or.inr ⟨"FrameForge", by decide +kernel⟩⟩
theorem csC_57 : am_Cs "FrameForge$Checker" 57 jE_hasAt 2 := ⟨coE_hasAt, inE, by decide +kernel, by decide, Or.inl (wd_in 685 (by decide +kernel) rfl)⟩
theorem csC_69 : am_Cs "FrameForge$Checker" 69 jC_comeTo 4 := ⟨coC_comeTo, inC, by decide +kernel, by decide, Or.inl (wd_in 387 (by decide +kernel) rfl)⟩
theorem lkC_73 : Cond.methodLink "FrameForge$Checker" 73 arraycopyName ∈ am_T := wd_in 396 (by decide +kernel) rfl
theorem csC_85 : am_Cs "FrameForge$Checker" 85 jE_rowCovers 2 := ⟨coE_rowCovers, inE, by decide +kernel, by decide, Or.inl (wd_in 405 (by decide +kernel) rfl)⟩
theorem csC_97 : am_Cs "FrameForge$Checker" 97 jC_passArguments 1 := ⟨coC_passArguments, inC, by decide +kernel, by decide, Or.inl (wd_in 409 (by decide +kernel) rfl)⟩
theorem csC_101 : am_Cs "FrameForge$Checker" 101 jC_takeAndGive 2 := ⟨coC_takeAndGive, inC, by decide +kernel, by decide, Or.inl (wd_in 425 (by decide +kernel) rfl)⟩
theorem csC_105 : am_Cs "FrameForge$Checker" 105 jC_leadOn 2 := ⟨coC_leadOn, inC, by decide +kernel, by decide, Or.inl (wd_in 437 (by decide +kernel) rfl)⟩
theorem csC_108 : am_Cs "FrameForge$Checker" 108 jC_take 1 := ⟨coC_take, inC, by decide +kernel, by decide, Or.inl (wd_in 413 (by decide +kernel) rfl)⟩
theorem csC_111 : am_Cs "FrameForge$Checker" 111 jC_give 1 := ⟨coC_give, inC, by decide +kernel, by decide, Or.inl (wd_in 421 (by decide +kernel) rfl)⟩
theorem csC_114 : am_Cs "FrameForge$Checker" 114 jC_takeAny 0 := ⟨coC_takeAny, inC, by decide +kernel, by decide, Or.inl (wd_in 417 (by decide +kernel) rfl)⟩
theorem csC_121 : am_Cs "FrameForge$Checker" 121 jC_useLocal 2 := ⟨coC_useLocal, inC, by decide +kernel, by decide, Or.inl (wd_in 429 (by decide +kernel) rfl)⟩
theorem csC_125 : am_Cs "FrameForge$Checker" 125 jC_useObject 1 := ⟨coC_useObject, inC, by decide +kernel, by decide, Or.inl (wd_in 433 (by decide +kernel) rfl)⟩
theorem csC_128 : am_Cs "FrameForge$Checker" 128 jF_isJump 1 := ⟨coF_isJump, inF, by decide +kernel, by decide, Or.inr ⟨"FrameForge", by decide +kernel⟩⟩
theorem csC_132 : am_Cs "FrameForge$Checker" 132 jC_meet 3 := ⟨coC_meet, inC, by decide +kernel, by decide, Or.inl (wd_in 392 (by decide +kernel) rfl)⟩
theorem csC_136 : am_Cs "FrameForge$Checker" 136 jC_followBacksAgain 1 := ⟨coC_followBacksAgain, inC, by decide +kernel, by decide, Or.inl (wd_in 397 (by decide +kernel) rfl)⟩
theorem lkA_3 : Cond.methodLink "FrameForge$Frame" 3 objectInit ∈ am_T := wd_in 160 (by decide +kernel) rfl
theorem csA_34 : am_Cs "FrameForge$Frame" 34 jA_push 1 := ⟨coA_push, inA, by decide +kernel, by decide, Or.inl (wd_in 588 (by decide +kernel) rfl)⟩
theorem lkL_3 : Cond.methodLink "FrameForge$Ledger" 3 objectInit ∈ am_T := wd_in 242 (by decide +kernel) rfl
theorem lkL_37 : Cond.methodLink "FrameForge$Ledger" 37 Lib.Math.min.name ∈ am_T := wd_in 601 (by decide +kernel) rfl
theorem csL_43 : am_Cs "FrameForge$Ledger" 43 jL_entriesKept 0 := ⟨coL_entriesKept, inL, by decide +kernel, by decide, Or.inl (wd_in 612 (by decide +kernel) rfl)⟩
theorem lkM_3 : Cond.methodLink "FrameForge$Machine" 3 objectInit ∈ am_T := wd_in 153 (by decide +kernel) rfl
theorem csM_27 : am_Cs "FrameForge$Machine" 27 jA_init 0 := ⟨coA_init, inA, by decide +kernel, by decide, Or.inr ⟨"FrameForge", by decide +kernel⟩⟩
theorem csM_36 : am_Cs "FrameForge$Machine" 36 jL_clear 0 := ⟨coL_clear, inL, by decide +kernel, by decide, Or.inl (wd_in 484 (by decide +kernel) rfl)⟩
theorem csM_51 : am_Cs "FrameForge$Machine" 51 jM_openFrame 1 := ⟨coM_openFrame, inM, by decide +kernel, by decide, Or.inl (wd_in 488 (by decide +kernel) rfl)⟩
theorem csM_64 : am_Cs "FrameForge$Machine" 64 jM_step 1 := ⟨coM_step, inM, by decide +kernel, by decide, Or.inl (wd_in 503 (by decide +kernel) rfl)⟩
theorem csM_68 : am_Cs "FrameForge$Machine" 68 jM_findRow 0 := ⟨coM_findRow, inM, by decide +kernel, by decide, Or.inl (wd_in 572 (by decide +kernel) rfl)⟩
theorem lkM_74 : Cond.methodLink "FrameForge$Machine" 74 Lib.Math.max.name ∈ am_T := wd_in 492 (by decide +kernel) rfl
theorem csM_80 : am_Cs "FrameForge$Machine" 80 jA_begin 2 := ⟨coA_begin, inA, by decide +kernel, by decide, Or.inl (wd_in 495 (by decide +kernel) rfl)⟩
theorem csM_96 : am_Cs "FrameForge$Machine" 96 jL_note 2 := ⟨coL_note, inL, by decide +kernel, by decide, Or.inl (wd_in 499 (by decide +kernel) rfl)⟩
theorem csM_117 : am_Cs "FrameForge$Machine" 117 jA_push 1 := ⟨coA_push, inA, by decide +kernel, by decide, Or.inl (wd_in 507 (by decide +kernel) rfl)⟩
theorem csM_121 : am_Cs "FrameForge$Machine" 121 jM_useLocal 4 := ⟨coM_useLocal, inM, by decide +kernel, by decide, Or.inl (wd_in 511 (by decide +kernel) rfl)⟩
theorem csM_125 : am_Cs "FrameForge$Machine" 125 jM_make 1 := ⟨coM_make, inM, by decide +kernel, by decide, Or.inl (wd_in 519 (by decide +kernel) rfl)⟩
theorem csM_129 : am_Cs "FrameForge$Machine" 129 jM_turn 4 := ⟨coM_turn, inM, by decide +kernel, by decide, Or.inl (wd_in 523 (by decide +kernel) rfl)⟩
theorem csM_132 : am_Cs "FrameForge$Machine" 132 jM_beginCall 2 := ⟨coM_beginCall, inM, by decide +kernel, by decide, Or.inl (wd_in 530 (by decide +kernel) rfl)⟩
theorem csM_136 : am_Cs "FrameForge$Machine" 136 jA_pop 0 := ⟨coA_pop, inA, by decide +kernel, by decide, Or.inl (wd_in 515 (by decide +kernel) rfl)⟩
theorem csM_140 : am_Cs "FrameForge$Machine" 140 jM_closeFrame 0 := ⟨coM_closeFrame, inM, by decide +kernel, by decide, Or.inl (wd_in 542 (by decide +kernel) rfl)⟩
theorem csM_143 : am_Cs "FrameForge$Machine" 143 jM_giveBack 1 := ⟨coM_giveBack, inM, by decide +kernel, by decide, Or.inl (wd_in 546 (by decide +kernel) rfl)⟩
theorem csM_147 : am_Cs "FrameForge$Machine" 147 jM_reckon 2 := ⟨coM_reckon, inM, by decide +kernel, by decide, Or.inl (wd_in 551 (by decide +kernel) rfl)⟩
theorem csM_150 : am_Cs "FrameForge$Machine" 150 jM_shuffle 2 := ⟨coM_shuffle, inM, by decide +kernel, by decide, Or.inl (wd_in 555 (by decide +kernel) rfl)⟩
theorem csM_153 : am_Cs "FrameForge$Machine" 153 jM_useObject 2 := ⟨coM_useObject, inM, by decide +kernel, by decide, Or.inl (wd_in 559 (by decide +kernel) rfl)⟩
theorem csM_156 : am_Cs "FrameForge$Machine" 156 jM_throwNew 1 := ⟨coM_throwNew, inM, by decide +kernel, by decide, Or.inl (wd_in 534 (by decide +kernel) rfl)⟩
theorem csM_159 : am_Cs "FrameForge$Machine" 159 jM_holds 2 := ⟨coM_holds, inM, by decide +kernel, by decide, Or.inl (wd_in 527 (by decide +kernel) rfl)⟩
theorem csM_163 : am_Cs "FrameForge$Machine" 163 jM_enterLock 1 := ⟨coM_enterLock, inM, by decide +kernel, by decide, Or.inl (wd_in 563 (by decide +kernel) rfl)⟩
theorem csM_166 : am_Cs "FrameForge$Machine" 166 jM_throwObject 1 := ⟨coM_throwObject, inM, by decide +kernel, by decide, Or.inl (wd_in 538 (by decide +kernel) rfl)⟩
theorem csM_169 : am_Cs "FrameForge$Machine" 169 jM_leaveLock 2 := ⟨coM_leaveLock, inM, by decide +kernel, by decide, Or.inl (wd_in 567 (by decide +kernel) rfl)⟩
theorem lkM_176 : Cond.methodLink "FrameForge$Machine" 176 arraycopyName ∈ am_T := wd_in 571 (by decide +kernel) rfl
theorem csM_191 : am_Cs "FrameForge$Machine" 191 jE_rowFor 2 := ⟨coE_rowFor, inE, by decide +kernel, by decide, Or.inl (wd_in 576 (by decide +kernel) rfl)⟩
theorem csM_197 : am_Cs "FrameForge$Machine" 197 jA_goOnWith 2 := ⟨coA_goOnWith, inA, by decide +kernel, by decide, Or.inl (wd_in 584 (by decide +kernel) rfl)⟩
theorem lkE_3 : Cond.methodLink "FrameForge$Method" 3 objectInit ∈ am_T := wd_in 33 (by decide +kernel) rfl
theorem csE_47 : am_Cs "FrameForge$Method" 47 jE_begin 2 := ⟨coE_begin, inE, by decide +kernel, by decide, Or.inl (wd_in 323 (by decide +kernel) rfl)⟩
theorem lkE_51 : Cond.methodLink "FrameForge$Method" 51 arraycopyName ∈ am_T := wd_in 327 (by decide +kernel) rfl
theorem csE_63 : am_Cs "FrameForge$Method" 63 jF_isBelow 2 := ⟨coF_isBelow, inF, by decide +kernel, by decide, Or.inr ⟨"FrameForge", by decide +kernel⟩⟩
theorem csE_67 : am_Cs "FrameForge$Method" 67 jE_rowCovers 2 := ⟨coE_rowCovers, inE, by decide +kernel, by decide, Or.inl (wd_in 580 (by decide +kernel) rfl)⟩
theorem csE_73 : am_Cs "FrameForge$Method" 73 jF_hasBit 2 := ⟨coF_hasBit, inF, by decide +kernel, by decide, Or.inr ⟨"FrameForge", by decide +kernel⟩⟩
theorem lkE_76 : Cond.methodLink "FrameForge$Method" 76 Lib.Math.max.name ∈ am_T := wd_in 680 (by decide +kernel) rfl
theorem csE_82 : am_Cs "FrameForge$Method" 82 jE_hasAt 2 := ⟨coE_hasAt, inE, by decide +kernel, by decide, Or.inl (wd_in 630 (by decide +kernel) rfl)⟩
theorem csE_85 : am_Cs "FrameForge$Method" 85 jE_keepsPlain 3 := ⟨coE_keepsPlain, inE, by decide +kernel, by decide, Or.inl (wd_in 631 (by decide +kernel) rfl)⟩
theorem csE_89 : am_Cs "FrameForge$Method" 89 jE_leadsInto 3 := ⟨coE_leadsInto, inE, by decide +kernel, by decide, Or.inl (wd_in 636 (by decide +kernel) rfl)⟩
theorem csE_92 : am_Cs "FrameForge$Method" 92 jF_isJump 1 := ⟨coF_isJump, inF, by decide +kernel, by decide, Or.inr ⟨"FrameForge", by decide +kernel⟩⟩
theorem lkP_3 : Cond.methodLink "FrameForge$Program" 3 objectInit ∈ am_T := wd_in 26 (by decide +kernel) rfl
theorem csP_17 : am_Cs "FrameForge$Program" 17 jE_init 0 := ⟨coE_init, inE, by decide +kernel, by decide, Or.inr ⟨"FrameForge", by decide +kernel⟩⟩
theorem csP_18 : am_Cs "FrameForge$Program" 18 jE_become 1 := ⟨coE_become, inE, by decide +kernel, by decide, Or.inl (wd_in 319 (by decide +kernel) rfl)⟩
theorem csP_26 : am_Cs "FrameForge$Program" 26 jF_hasBit 2 := ⟨coF_hasBit, inF, by decide +kernel, by decide, Or.inr ⟨"FrameForge", by decide +kernel⟩⟩
theorem csP_30 : am_Cs "FrameForge$Program" 30 jE_calls 0 := ⟨coE_calls, inE, by decide +kernel, by decide, Or.inl (wd_in 475 (by decide +kernel) rfl)⟩
theorem lkW_3 : Cond.methodLink "FrameForge$Rewriter" 3 objectInit ∈ am_T := wd_in 221 (by decide +kernel) rfl
theorem csW_11 : am_Cs "FrameForge$Rewriter" 11 jE_init 0 := ⟨coE_init, inE, by decide +kernel, by decide, Or.inr ⟨"FrameForge", by decide +kernel⟩⟩
theorem csW_18 : am_Cs "FrameForge$Rewriter" 18 jE_hasAt 2 := ⟨coE_hasAt, inE, by decide +kernel, by decide, Or.inl (wd_in 621 (by decide +kernel) rfl)⟩
theorem csW_26 : am_Cs "FrameForge$Rewriter" 26 jE_plainEnd 1 := ⟨coE_plainEnd, inE, by decide +kernel, by decide, Or.inl (wd_in 626 (by decide +kernel) rfl)⟩
theorem csW_30 : am_Cs "FrameForge$Rewriter" 30 jW_spread 3 := ⟨coW_spread, inW, by decide +kernel, by decide, Or.inl (wd_in 640 (by decide +kernel) rfl)⟩
theorem csW_41 : am_Cs "FrameForge$Rewriter" 41 jF_isJump 1 := ⟨coF_isJump, inF, by decide +kernel, by decide, Or.inr ⟨"FrameForge", by decide +kernel⟩⟩
theorem csW_48 : am_Cs "FrameForge$Rewriter" 48 jE_put 4 := ⟨coE_put, inE, by decide +kernel, by decide, Or.inl (wd_in 650 (by decide +kernel) rfl)⟩
theorem csW_56 : am_Cs "FrameForge$Rewriter" 56 jW_splitRow 4 := ⟨coW_splitRow, inW, by decide +kernel, by decide, Or.inl (wd_in 651 (by decide +kernel) rfl)⟩
theorem csW_60 : am_Cs "FrameForge$Rewriter" 60 jW_takeOver 1 := ⟨coW_takeOver, inW, by decide +kernel, by decide, Or.inl (wd_in 662 (by decide +kernel) rfl)⟩
theorem csW_70 : am_Cs "FrameForge$Rewriter" 70 jE_greatestLocal 0 := ⟨coE_greatestLocal, inE, by decide +kernel, by decide, Or.inl (wd_in 690 (by decide +kernel) rfl)⟩
theorem csW_74 : am_Cs "FrameForge$Rewriter" 74 jW_putCalled 4 := ⟨coW_putCalled, inW, by decide +kernel, by decide, Or.inl (wd_in 691 (by decide +kernel) rfl)⟩
theorem lkW_80 : Cond.methodLink "FrameForge$Rewriter" 80 Lib.Math.min.name ∈ am_T := wd_in 655 (by decide +kernel) rfl
theorem csW_95 : am_Cs "FrameForge$Rewriter" 95 jW_draftRow 4 := ⟨coW_draftRow, inW, by decide +kernel, by decide, Or.inl (wd_in 656 (by decide +kernel) rfl)⟩
theorem csW_98 : am_Cs "FrameForge$Rewriter" 98 jW_moved 1 := ⟨coW_moved, inW, by decide +kernel, by decide, Or.inl (wd_in 646 (by decide +kernel) rfl)⟩
theorem csW_110 : am_Cs "FrameForge$Rewriter" 110 jE_begin 2 := ⟨coE_begin, inE, by decide +kernel, by decide, Or.inl (wd_in 644 (by decide +kernel) rfl)⟩
theorem lkW_114 : Cond.methodLink "FrameForge$Rewriter" 114 Lib.Math.max.name ∈ am_T := wd_in 661 (by decide +kernel) rfl
theorem csW_117 : am_Cs "FrameForge$Rewriter" 117 jE_addRow 4 := ⟨coE_addRow, inE, by decide +kernel, by decide, Or.inl (wd_in 660 (by decide +kernel) rfl)⟩
theorem csW_121 : am_Cs "FrameForge$Rewriter" 121 jE_become 1 := ⟨coE_become, inE, by decide +kernel, by decide, Or.inl (wd_in 666 (by decide +kernel) rfl)⟩
theorem csY_9 : am_Cs "FrameForgeLaw" 9 jF_init 0 := ⟨coF_init, inF, by decide +kernel, by decide, Or.inl (wd_in 14 (by decide +kernel) rfl)⟩
theorem csY_12 : am_Cs "FrameForgeLaw" 12 jR_init 0 := ⟨coR_init, inR, by decide +kernel, by decide, Or.inl (wd_in 713 (by decide +kernel) rfl)⟩
theorem csY_13 : am_Cs "FrameForgeLaw" 13 jF_write 1 := ⟨coF_write, inF, by decide +kernel, by decide, Or.inl (wd_in 304 (by decide +kernel) rfl)⟩
theorem csY_17 : am_Cs "FrameForgeLaw" 17 jR_write 1 := ⟨coR_write, inR, by decide +kernel, by decide, Or.inl (wd_in 873 (by decide +kernel) rfl)⟩
theorem csY_18 : am_Cs "FrameForgeLaw" 18 jF_branch 0 := ⟨coF_branch, inF, by decide +kernel, by decide, Or.inl (wd_in 311 (by decide +kernel) rfl)⟩
theorem csY_22 : am_Cs "FrameForgeLaw" 22 jR_branch 0 := ⟨coR_branch, inR, by decide +kernel, by decide, Or.inl (wd_in 880 (by decide +kernel) rfl)⟩
theorem csY_23 : am_Cs "FrameForgeLaw" 23 jF_method 3 := ⟨coF_method, inF, by decide +kernel, by decide, Or.inl (wd_in 334 (by decide +kernel) rfl)⟩
theorem csY_27 : am_Cs "FrameForgeLaw" 27 jR_method 3 := ⟨coR_method, inR, by decide +kernel, by decide, Or.inl (wd_in 892 (by decide +kernel) rfl)⟩
theorem csY_28 : am_Cs "FrameForgeLaw" 28 jF_add 4 := ⟨coF_add, inF, by decide +kernel, by decide, Or.inl (wd_in 343 (by decide +kernel) rfl)⟩
theorem csY_32 : am_Cs "FrameForgeLaw" 32 jR_add 4 := ⟨coR_add, inR, by decide +kernel, by decide, Or.inl (wd_in 900 (by decide +kernel) rfl)⟩
theorem csY_33 : am_Cs "FrameForgeLaw" 33 jF_change 5 := ⟨coF_change, inF, by decide +kernel, by decide, Or.inl (wd_in 363 (by decide +kernel) rfl)⟩
theorem csY_37 : am_Cs "FrameForgeLaw" 37 jR_change 5 := ⟨coR_change, inR, by decide +kernel, by decide, Or.inl (wd_in 917 (by decide +kernel) rfl)⟩
theorem csY_38 : am_Cs "FrameForgeLaw" 38 jF_row 5 := ⟨coF_row, inF, by decide +kernel, by decide, Or.inl (wd_in 367 (by decide +kernel) rfl)⟩
theorem csY_42 : am_Cs "FrameForgeLaw" 42 jR_row 5 := ⟨coR_row, inR, by decide +kernel, by decide, Or.inl (wd_in 921 (by decide +kernel) rfl)⟩
theorem csY_43 : am_Cs "FrameForgeLaw" 43 jF_check 1 := ⟨coF_check, inF, by decide +kernel, by decide, Or.inl (wd_in 375 (by decide +kernel) rfl)⟩
theorem csY_47 : am_Cs "FrameForgeLaw" 47 jR_check 1 := ⟨coR_check, inR, by decide +kernel, by decide, Or.inl (wd_in 925 (by decide +kernel) rfl)⟩
theorem csY_48 : am_Cs "FrameForgeLaw" 48 jF_kindAt 3 := ⟨coF_kindAt, inF, by decide +kernel, by decide, Or.inl (wd_in 444 (by decide +kernel) rfl)⟩
theorem csY_52 : am_Cs "FrameForgeLaw" 52 jR_kindAt 3 := ⟨coR_kindAt, inR, by decide +kernel, by decide, Or.inl (wd_in 965 (by decide +kernel) rfl)⟩
theorem csY_53 : am_Cs "FrameForgeLaw" 53 jF_run 6 := ⟨coF_run, inF, by decide +kernel, by decide, Or.inl (wd_in 460 (by decide +kernel) rfl)⟩
theorem csY_57 : am_Cs "FrameForgeLaw" 57 jR_run 6 := ⟨coR_run, inR, by decide +kernel, by decide, Or.inl (wd_in 969 (by decide +kernel) rfl)⟩
theorem csY_58 : am_Cs "FrameForgeLaw" 58 jF_ran 1 := ⟨coF_ran, inF, by decide +kernel, by decide, Or.inl (wd_in 589 (by decide +kernel) rfl)⟩
theorem csY_61 : am_Cs "FrameForgeLaw" 61 jR_ran 1 := ⟨coR_ran, inR, by decide +kernel, by decide, Or.inl (wd_in 1041 (by decide +kernel) rfl)⟩
theorem csY_62 : am_Cs "FrameForgeLaw" 62 jF_trace 1 := ⟨coF_trace, inF, by decide +kernel, by decide, Or.inl (wd_in 593 (by decide +kernel) rfl)⟩
theorem csY_65 : am_Cs "FrameForgeLaw" 65 jR_trace 1 := ⟨coR_trace, inR, by decide +kernel, by decide, Or.inl (wd_in 1045 (by decide +kernel) rfl)⟩
theorem csY_66 : am_Cs "FrameForgeLaw" 66 jF_compare 4 := ⟨coF_compare, inF, by decide +kernel, by decide, Or.inl (wd_in 604 (by decide +kernel) rfl)⟩
theorem csY_69 : am_Cs "FrameForgeLaw" 69 jR_compare 4 := ⟨coR_compare, inR, by decide +kernel, by decide, Or.inl (wd_in 1049 (by decide +kernel) rfl)⟩
theorem csY_70 : am_Cs "FrameForgeLaw" 70 jF_unfold 2 := ⟨coF_unfold, inF, by decide +kernel, by decide, Or.inl (wd_in 613 (by decide +kernel) rfl)⟩
theorem csY_74 : am_Cs "FrameForgeLaw" 74 jR_unfold 2 := ⟨coR_unfold, inR, by decide +kernel, by decide, Or.inl (wd_in 1053 (by decide +kernel) rfl)⟩
theorem csY_75 : am_Cs "FrameForgeLaw" 75 jF_inline 2 := ⟨coF_inline, inF, by decide +kernel, by decide, Or.inl (wd_in 667 (by decide +kernel) rfl)⟩
theorem csY_78 : am_Cs "FrameForgeLaw" 78 jR_inline 2 := ⟨coR_inline, inR, by decide +kernel, by decide, Or.inl (wd_in 1076 (by decide +kernel) rfl)⟩
theorem csY_79 : am_Cs "FrameForgeLaw" 79 jF_code 3 := ⟨coF_code, inF, by decide +kernel, by decide, Or.inl (wd_in 695 (by decide +kernel) rfl)⟩
theorem csY_82 : am_Cs "FrameForgeLaw" 82 jR_code 3 := ⟨coR_code, inR, by decide +kernel, by decide, Or.inl (wd_in 1088 (by decide +kernel) rfl)⟩
theorem csY_83 : am_Cs "FrameForgeLaw" 83 jF_table 3 := ⟨coF_table, inF, by decide +kernel, by decide, Or.inl (wd_in 699 (by decide +kernel) rfl)⟩
theorem csY_86 : am_Cs "FrameForgeLaw" 86 jR_table 3 := ⟨coR_table, inR, by decide +kernel, by decide, Or.inl (wd_in 1092 (by decide +kernel) rfl)⟩
theorem lkR_1 : Cond.methodLink "FrameForgeModel" 1 objectInit ∈ am_T := wd_in 716 (by decide +kernel) rfl
theorem csR_123 : am_Cs "FrameForgeModel" 123 jR_in 3 := ⟨coR_in, inR, by decide +kernel, by decide, Or.inl (wd_in 877 (by decide +kernel) rfl)⟩
theorem csR_127 : am_Cs "FrameForgeModel" 127 jR_set 5 := ⟨coR_set, inR, by decide +kernel, by decide, Or.inl (wd_in 884 (by decide +kernel) rfl)⟩
theorem csR_131 : am_Cs "FrameForgeModel" 131 jR_setRow 6 := ⟨coR_setRow, inR, by decide +kernel, by decide, Or.inl (wd_in 888 (by decide +kernel) rfl)⟩
theorem csR_135 : am_Cs "FrameForgeModel" 135 jR_own 1 := ⟨coR_own, inR, by decide +kernel, by decide, Or.inl (wd_in 896 (by decide +kernel) rfl)⟩
theorem csR_139 : am_Cs "FrameForgeModel" 139 jR_isJump 1 := ⟨coR_isJump, inR, by decide +kernel, by decide, Or.inl (wd_in 907 (by decide +kernel) rfl)⟩
theorem csR_143 : am_Cs "FrameForgeModel" 143 jR_mostA 1 := ⟨coR_mostA, inR, by decide +kernel, by decide, Or.inl (wd_in 910 (by decide +kernel) rfl)⟩
theorem csR_146 : am_Cs "FrameForgeModel" 146 jR_isGood 3 := ⟨coR_isGood, inR, by decide +kernel, by decide, Or.inl (wd_in 904 (by decide +kernel) rfl)⟩
theorem csR_149 : am_Cs "FrameForgeModel" 149 jR_put 5 := ⟨coR_put, inR, by decide +kernel, by decide, Or.inl (wd_in 913 (by decide +kernel) rfl)⟩
theorem csR_162 : am_Cs "FrameForgeModel" 162 jR_take 1 := ⟨coR_take, inR, by decide +kernel, by decide, Or.inl (wd_in 949 (by decide +kernel) rfl)⟩
theorem csR_166 : am_Cs "FrameForgeModel" 166 jR_push 1 := ⟨coR_push, inR, by decide +kernel, by decide, Or.inl (wd_in 945 (by decide +kernel) rfl)⟩
theorem csR_169 : am_Cs "FrameForgeModel" 169 jR_move 1 := ⟨coR_move, inR, by decide +kernel, by decide, Or.inl (wd_in 953 (by decide +kernel) rfl)⟩
theorem csR_172 : am_Cs "FrameForgeModel" 172 jR_arrive 2 := ⟨coR_arrive, inR, by decide +kernel, by decide, Or.inl (wd_in 933 (by decide +kernel) rfl)⟩
theorem csR_176 : am_Cs "FrameForgeModel" 176 jR_fetch 1 := ⟨coR_fetch, inR, by decide +kernel, by decide, Or.inl (wd_in 937 (by decide +kernel) rfl)⟩
theorem csR_179 : am_Cs "FrameForgeModel" 179 jR_leave 2 := ⟨coR_leave, inR, by decide +kernel, by decide, Or.inl (wd_in 941 (by decide +kernel) rfl)⟩
theorem csR_182 : am_Cs "FrameForgeModel" 182 jR_goOn 2 := ⟨coR_goOn, inR, by decide +kernel, by decide, Or.inl (wd_in 957 (by decide +kernel) rfl)⟩
theorem csR_185 : am_Cs "FrameForgeModel" 185 jR_refuse 2 := ⟨coR_refuse, inR, by decide +kernel, by decide, Or.inl (wd_in 961 (by decide +kernel) rfl)⟩
theorem csR_188 : am_Cs "FrameForgeModel" 188 jR_isRight 1 := ⟨coR_isRight, inR, by decide +kernel, by decide, Or.inl (wd_in 929 (by decide +kernel) rfl)⟩
theorem csR_197 : am_Cs "FrameForgeModel" 197 jR_tell 2 := ⟨coR_tell, inR, by decide +kernel, by decide, Or.inl (wd_in 985 (by decide +kernel) rfl)⟩
theorem csR_209 : am_Cs "FrameForgeModel" 209 jR_make 1 := ⟨coR_make, inR, by decide +kernel, by decide, Or.inl (wd_in 1005 (by decide +kernel) rfl)⟩
theorem csR_212 : am_Cs "FrameForgeModel" 212 jR_isUnder 2 := ⟨coR_isUnder, inR, by decide +kernel, by decide, Or.inl (wd_in 1013 (by decide +kernel) rfl)⟩
theorem csR_219 : am_Cs "FrameForgeModel" 219 jR_finish 1 := ⟨coR_finish, inR, by decide +kernel, by decide, Or.inl (wd_in 1016 (by decide +kernel) rfl)⟩
theorem csR_228 : am_Cs "FrameForgeModel" 228 jR_raise 1 := ⟨coR_raise, inR, by decide +kernel, by decide, Or.inl (wd_in 1009 (by decide +kernel) rfl)⟩
theorem csR_231 : am_Cs "FrameForgeModel" 231 jR_machine 1 := ⟨coR_machine, inR, by decide +kernel, by decide, Or.inl (wd_in 1001 (by decide +kernel) rfl)⟩
theorem csR_234 : am_Cs "FrameForgeModel" 234 jR_pop 0 := ⟨coR_pop, inR, by decide +kernel, by decide, Or.inl (wd_in 993 (by decide +kernel) rfl)⟩
theorem csR_238 : am_Cs "FrameForgeModel" 238 jR_begin 1 := ⟨coR_begin, inR, by decide +kernel, by decide, Or.inl (wd_in 981 (by decide +kernel) rfl)⟩
theorem csR_244 : am_Cs "FrameForgeModel" 244 jR_give 1 := ⟨coR_give, inR, by decide +kernel, by decide, Or.inl (wd_in 1020 (by decide +kernel) rfl)⟩
theorem csR_247 : am_Cs "FrameForgeModel" 247 jR_release 1 := ⟨coR_release, inR, by decide +kernel, by decide, Or.inl (wd_in 1028 (by decide +kernel) rfl)⟩
theorem csR_250 : am_Cs "FrameForgeModel" 250 jR_sum 3 := ⟨coR_sum, inR, by decide +kernel, by decide, Or.inl (wd_in 997 (by decide +kernel) rfl)⟩
theorem csR_254 : am_Cs "FrameForgeModel" 254 jR_onObject 3 := ⟨coR_onObject, inR, by decide +kernel, by decide, Or.inl (wd_in 1024 (by decide +kernel) rfl)⟩
theorem csR_257 : am_Cs "FrameForgeModel" 257 jR_call 1 := ⟨coR_call, inR, by decide +kernel, by decide, Or.inl (wd_in 1032 (by decide +kernel) rfl)⟩
theorem csR_260 : am_Cs "FrameForgeModel" 260 jR_back 1 := ⟨coR_back, inR, by decide +kernel, by decide, Or.inl (wd_in 1036 (by decide +kernel) rfl)⟩
theorem csR_267 : am_Cs "FrameForgeModel" 267 jR_step 0 := ⟨coR_step, inR, by decide +kernel, by decide, Or.inl (wd_in 989 (by decide +kernel) rfl)⟩
theorem csR_270 : am_Cs "FrameForgeModel" 270 jR_allRight 1 := ⟨coR_allRight, inR, by decide +kernel, by decide, Or.inl (wd_in 973 (by decide +kernel) rfl)⟩
theorem csR_273 : am_Cs "FrameForgeModel" 273 jR_go 5 := ⟨coR_go, inR, by decide +kernel, by decide, Or.inl (wd_in 977 (by decide +kernel) rfl)⟩
theorem csR_280 : am_Cs "FrameForgeModel" 280 jR_shifted 3 := ⟨coR_shifted, inR, by decide +kernel, by decide, Or.inl (wd_in 1061 (by decide +kernel) rfl)⟩
theorem csR_284 : am_Cs "FrameForgeModel" 284 jR_endOf 2 := ⟨coR_endOf, inR, by decide +kernel, by decide, Or.inl (wd_in 1057 (by decide +kernel) rfl)⟩
theorem csR_288 : am_Cs "FrameForgeModel" 288 jR_newRow 4 := ⟨coR_newRow, inR, by decide +kernel, by decide, Or.inl (wd_in 1064 (by decide +kernel) rfl)⟩
theorem csR_292 : am_Cs "FrameForgeModel" 292 jR_newInstruction 4 := ⟨coR_newInstruction, inR, by decide +kernel, by decide, Or.inl (wd_in 1068 (by decide +kernel) rfl)⟩
theorem csR_295 : am_Cs "FrameForgeModel" 295 jR_replace 3 := ⟨coR_replace, inR, by decide +kernel, by decide, Or.inl (wd_in 1072 (by decide +kernel) rfl)⟩
theorem csR_298 : am_Cs "FrameForgeModel" 298 jR_greatest 2 := ⟨coR_greatest, inR, by decide +kernel, by decide, Or.inl (wd_in 1080 (by decide +kernel) rfl)⟩
theorem csR_302 : am_Cs "FrameForgeModel" 302 jR_mayInline 4 := ⟨coR_mayInline, inR, by decide +kernel, by decide, Or.inl (wd_in 1084 (by decide +kernel) rfl)⟩
