/-! places, kinds, words, methods: by program -/
theorem zp_0 : zq_S[0]? = some (0, 11, [3, 5, 7, 11, 14, 17, 24, 31, 36, 40, 41, 42, 46, 50, 54, 0]) := rfl
theorem zp_1 : zq_S[1]? = some (0, 8, [4, 0, 0, 0]) := rfl
theorem zp_2 : zq_S[2]? = some (1, 80, []) := rfl
theorem zp_3 : zq_S[3]? = some (0, 5, [6, 0]) := rfl
theorem zp_4 : zq_S[4]? = some (2, 16, []) := rfl
theorem zp_5 : zq_S[5]? = some (0, 3, [8, 9, 10, 0]) := rfl
theorem zp_6 : zq_S[6]? = some (1, 18, []) := rfl
theorem zp_7 : zq_S[7]? = some (1, 6, []) := rfl
theorem zp_8 : zq_S[8]? = some (1, 6, []) := rfl
theorem zp_9 : zq_S[9]? = some (0, 10, [12, 13, 0]) := rfl
theorem zp_10 : zq_S[10]? = some (1, 96, []) := rfl
theorem zp_11 : zq_S[11]? = some (1, 102, []) := rfl
theorem zp_12 : zq_S[12]? = some (0, 0, [15, 16, 1, 0, 0]) := rfl
theorem zp_13 : zq_S[13]? = some (2, 15, []) := rfl
theorem zp_14 : zq_S[14]? = some (2, 3, []) := rfl
theorem zp_15 : zq_S[15]? = some (0, 1, [18, 19, 20, 21, 22, 23, 0, 0]) := rfl
theorem zp_16 : zq_S[16]? = some (1, 12, []) := rfl
theorem zp_17 : zq_S[17]? = some (1, 12, []) := rfl
theorem zp_18 : zq_S[18]? = some (1, 3, []) := rfl
theorem zp_19 : zq_S[19]? = some (1, 3, []) := rfl
theorem zp_20 : zq_S[20]? = some (1, 16, []) := rfl
theorem zp_21 : zq_S[21]? = some (1, 256, []) := rfl
theorem zp_22 : zq_S[22]? = some (0, 4, [25, 26, 27, 28, 29, 30, 0, 0]) := rfl
theorem zp_23 : zq_S[23]? = some (1, 6, []) := rfl
theorem zp_24 : zq_S[24]? = some (2, 6, []) := rfl
theorem zp_25 : zq_S[25]? = some (2, 6, []) := rfl
theorem zp_26 : zq_S[26]? = some (1, 102, []) := rfl
theorem zp_27 : zq_S[27]? = some (1, 64, []) := rfl
theorem zp_28 : zq_S[28]? = some (1, 6, []) := rfl
theorem zp_29 : zq_S[29]? = some (0, 7, [32, 33, 34, 35, 0, 0, 0]) := rfl
theorem zp_30 : zq_S[30]? = some (1, 4, []) := rfl
theorem zp_31 : zq_S[31]? = some (1, 4, []) := rfl
theorem zp_32 : zq_S[32]? = some (1, 16, []) := rfl
theorem zp_33 : zq_S[33]? = some (1, 16, []) := rfl
theorem zp_34 : zq_S[34]? = some (0, 9, [37, 38, 39, 0]) := rfl
theorem zp_35 : zq_S[35]? = some (1, 16, []) := rfl
theorem zp_36 : zq_S[36]? = some (1, 96, []) := rfl
theorem zp_37 : zq_S[37]? = some (1, 6, []) := rfl
theorem zp_38 : zq_S[38]? = some (1, 80, []) := rfl
theorem zp_39 : zq_S[39]? = some (1, 17, []) := rfl
theorem zp_40 : zq_S[40]? = some (0, 2, [43, 44, 45, 0]) := rfl
theorem zp_41 : zq_S[41]? = some (1, 16, []) := rfl
theorem zp_42 : zq_S[42]? = some (1, 16, []) := rfl
theorem zp_43 : zq_S[43]? = some (1, 16, []) := rfl
theorem zp_44 : zq_S[44]? = some (0, 2, [47, 48, 49, 0]) := rfl
theorem zp_45 : zq_S[45]? = some (1, 16, []) := rfl
theorem zp_46 : zq_S[46]? = some (1, 16, []) := rfl
theorem zp_47 : zq_S[47]? = some (1, 16, []) := rfl
theorem zp_48 : zq_S[48]? = some (0, 6, [51, 52, 53, 0, 0, 0, 0, 0]) := rfl
theorem zp_49 : zq_S[49]? = some (1, 40, []) := rfl
theorem zp_50 : zq_S[50]? = some (1, 40, []) := rfl
theorem zp_51 : zq_S[51]? = some (1, 40, []) := rfl
theorem zp_52 : zq_S[52]? = some (0, 6, [55, 56, 57, 0, 0, 0, 0, 0]) := rfl
theorem zp_53 : zq_S[53]? = some (1, 40, []) := rfl
theorem zp_54 : zq_S[54]? = some (1, 40, []) := rfl
theorem zp_55 : zq_S[55]? = some (1, 40, []) := rfl
theorem zp_56 : zq_S[56]? = some (0, 12, [0, 0, 59, 0, 0, 0, 60, 61, 62, 63, 64, 65, 66, 0, 0, 0, 0, 67, 68, 69, 70, 0, 71, 72, 73, 0, 0, 74, 75, 76, 77, 0, 78, 79, 80, 81, 82, 0, 83, 84, 0, 85, 86, 0, 87, 88, 89, 0, 90, 0, 0, 91, 92, 0, 93, 94, 95, 96, 97, 98, 99, 1, 1, 100, 101, 102, 103]) := rfl
theorem zp_57 : zq_S[57]? = some (2, 24, []) := rfl
theorem zp_58 : zq_S[58]? = some (1, 16, []) := rfl
theorem zp_59 : zq_S[59]? = some (1, 16, []) := rfl
theorem zp_60 : zq_S[60]? = some (3, 16, []) := rfl
theorem zp_61 : zq_S[61]? = some (1, 18, []) := rfl
theorem zp_62 : zq_S[62]? = some (1, 6, []) := rfl
theorem zp_63 : zq_S[63]? = some (1, 16, []) := rfl
theorem zp_64 : zq_S[64]? = some (1, 80, []) := rfl
theorem zp_65 : zq_S[65]? = some (1, 16, []) := rfl
theorem zp_66 : zq_S[66]? = some (1, 16, []) := rfl
theorem zp_67 : zq_S[67]? = some (3, 16, []) := rfl
theorem zp_68 : zq_S[68]? = some (1, 18, []) := rfl
theorem zp_69 : zq_S[69]? = some (1, 6, []) := rfl
theorem zp_70 : zq_S[70]? = some (1, 80, []) := rfl
theorem zp_71 : zq_S[71]? = some (1, 80, []) := rfl
theorem zp_72 : zq_S[72]? = some (1, 80, []) := rfl
theorem zp_73 : zq_S[73]? = some (1, 9, []) := rfl
theorem zp_74 : zq_S[74]? = some (1, 96, []) := rfl
theorem zp_75 : zq_S[75]? = some (1, 6, []) := rfl
theorem zp_76 : zq_S[76]? = some (1, 256, []) := rfl
theorem zp_77 : zq_S[77]? = some (1, 60, []) := rfl
theorem zp_78 : zq_S[78]? = some (1, 60, []) := rfl
theorem zp_79 : zq_S[79]? = some (1, 60, []) := rfl
theorem zp_80 : zq_S[80]? = some (1, 60, []) := rfl
theorem zp_81 : zq_S[81]? = some (1, 12, []) := rfl
theorem zp_82 : zq_S[82]? = some (1, 12, []) := rfl
theorem zp_83 : zq_S[83]? = some (1, 6, []) := rfl
theorem zp_84 : zq_S[84]? = some (1, 6, []) := rfl
theorem zp_85 : zq_S[85]? = some (1, 16, []) := rfl
theorem zp_86 : zq_S[86]? = some (1, 16, []) := rfl
theorem zp_87 : zq_S[87]? = some (1, 36, []) := rfl
theorem zp_88 : zq_S[88]? = some (1, 16, []) := rfl
theorem zp_89 : zq_S[89]? = some (1, 96, []) := rfl
theorem zp_90 : zq_S[90]? = some (1, 6, []) := rfl
theorem zp_91 : zq_S[91]? = some (1, 12, []) := rfl
theorem zp_92 : zq_S[92]? = some (1, 12, []) := rfl
theorem zp_93 : zq_S[93]? = some (1, 16, []) := rfl
theorem zp_94 : zq_S[94]? = some (1, 256, []) := rfl
theorem zp_95 : zq_S[95]? = some (1, 256, []) := rfl
theorem zp_96 : zq_S[96]? = some (1, 6, []) := rfl
theorem zp_97 : zq_S[97]? = some (1, 6, []) := rfl
theorem zp_98 : zq_S[98]? = some (1, 6, []) := rfl
theorem zp_99 : zq_S[99]? = some (3, 3, []) := rfl
theorem zp_100 : zq_S[100]? = some (1, 3, []) := rfl
theorem zp_101 : zq_S[101]? = some (1, 48, []) := rfl
theorem zp_102 : zq_S[102]? = some (2, 1, []) := rfl
theorem zq_in1 {w : Cond} {i : Nat} (h : tables_1_1[i]? = some w) (g : goodWord w = true) : w ∈ zq_tb := by
  have this := List.mem_of_getElem? h
  have m : w ∈ tables_1 := by simp only [tables_1, List.mem_append]; exact Or.inl this
  exact zq_in (List.mem_append_right _ m) g
theorem zq_iN1 {w : Cond} {i : Nat} (h : tables_1_1[i]? = some w) (g : zq_isN w = true) : w ∈ zq_nw := by
  have this := List.mem_of_getElem? h
  have m : w ∈ tables_1 := by simp only [tables_1, List.mem_append]; exact Or.inl this
  exact List.mem_filter.mpr ⟨m, g⟩
theorem zq_in2 {w : Cond} {i : Nat} (h : tables_1_2[i]? = some w) (g : goodWord w = true) : w ∈ zq_tb := by
  have this := List.mem_of_getElem? h
  have m : w ∈ tables_1 := by simp only [tables_1, List.mem_append]; exact Or.inr (Or.inl this)
  exact zq_in (List.mem_append_right _ m) g
theorem zq_iN2 {w : Cond} {i : Nat} (h : tables_1_2[i]? = some w) (g : zq_isN w = true) : w ∈ zq_nw := by
  have this := List.mem_of_getElem? h
  have m : w ∈ tables_1 := by simp only [tables_1, List.mem_append]; exact Or.inr (Or.inl this)
  exact List.mem_filter.mpr ⟨m, g⟩
theorem zq_in3 {w : Cond} {i : Nat} (h : tables_1_3[i]? = some w) (g : goodWord w = true) : w ∈ zq_tb := by
  have this := List.mem_of_getElem? h
  have m : w ∈ tables_1 := by simp only [tables_1, List.mem_append]; exact Or.inr (Or.inr (Or.inl this))
  exact zq_in (List.mem_append_right _ m) g
theorem zq_iN3 {w : Cond} {i : Nat} (h : tables_1_3[i]? = some w) (g : zq_isN w = true) : w ∈ zq_nw := by
  have this := List.mem_of_getElem? h
  have m : w ∈ tables_1 := by simp only [tables_1, List.mem_append]; exact Or.inr (Or.inr (Or.inl this))
  exact List.mem_filter.mpr ⟨m, g⟩
theorem zq_in4 {w : Cond} {i : Nat} (h : tables_1_4[i]? = some w) (g : goodWord w = true) : w ∈ zq_tb := by
  have this := List.mem_of_getElem? h
  have m : w ∈ tables_1 := by simp only [tables_1, List.mem_append]; exact Or.inr (Or.inr (Or.inr (Or.inl this)))
  exact zq_in (List.mem_append_right _ m) g
theorem zq_iN4 {w : Cond} {i : Nat} (h : tables_1_4[i]? = some w) (g : zq_isN w = true) : w ∈ zq_nw := by
  have this := List.mem_of_getElem? h
  have m : w ∈ tables_1 := by simp only [tables_1, List.mem_append]; exact Or.inr (Or.inr (Or.inr (Or.inl this)))
  exact List.mem_filter.mpr ⟨m, g⟩
theorem zq_in5 {w : Cond} {i : Nat} (h : tables_1_5[i]? = some w) (g : goodWord w = true) : w ∈ zq_tb := by
  have this := List.mem_of_getElem? h
  have m : w ∈ tables_1 := by simp only [tables_1, List.mem_append]; exact Or.inr (Or.inr (Or.inr (Or.inr (Or.inl this))))
  exact zq_in (List.mem_append_right _ m) g
theorem zq_iN5 {w : Cond} {i : Nat} (h : tables_1_5[i]? = some w) (g : zq_isN w = true) : w ∈ zq_nw := by
  have this := List.mem_of_getElem? h
  have m : w ∈ tables_1 := by simp only [tables_1, List.mem_append]; exact Or.inr (Or.inr (Or.inr (Or.inr (Or.inl this))))
  exact List.mem_filter.mpr ⟨m, g⟩
theorem zq_in6 {w : Cond} {i : Nat} (h : tables_1_6[i]? = some w) (g : goodWord w = true) : w ∈ zq_tb := by
  have this := List.mem_of_getElem? h
  have m : w ∈ tables_1 := by simp only [tables_1, List.mem_append]; exact Or.inr (Or.inr (Or.inr (Or.inr (Or.inr (Or.inl this)))))
  exact zq_in (List.mem_append_right _ m) g
theorem zq_iN6 {w : Cond} {i : Nat} (h : tables_1_6[i]? = some w) (g : zq_isN w = true) : w ∈ zq_nw := by
  have this := List.mem_of_getElem? h
  have m : w ∈ tables_1 := by simp only [tables_1, List.mem_append]; exact Or.inr (Or.inr (Or.inr (Or.inr (Or.inr (Or.inl this)))))
  exact List.mem_filter.mpr ⟨m, g⟩
theorem zq_in7 {w : Cond} {i : Nat} (h : tables_1_7[i]? = some w) (g : goodWord w = true) : w ∈ zq_tb := by
  have this := List.mem_of_getElem? h
  have m : w ∈ tables_1 := by simp only [tables_1, List.mem_append]; exact Or.inr (Or.inr (Or.inr (Or.inr (Or.inr (Or.inr (Or.inl this))))))
  exact zq_in (List.mem_append_right _ m) g
theorem zq_iN7 {w : Cond} {i : Nat} (h : tables_1_7[i]? = some w) (g : zq_isN w = true) : w ∈ zq_nw := by
  have this := List.mem_of_getElem? h
  have m : w ∈ tables_1 := by simp only [tables_1, List.mem_append]; exact Or.inr (Or.inr (Or.inr (Or.inr (Or.inr (Or.inr (Or.inl this))))))
  exact List.mem_filter.mpr ⟨m, g⟩
theorem zq_in8 {w : Cond} {i : Nat} (h : tables_1_8[i]? = some w) (g : goodWord w = true) : w ∈ zq_tb := by
  have this := List.mem_of_getElem? h
  have m : w ∈ tables_1 := by simp only [tables_1, List.mem_append]; exact Or.inr (Or.inr (Or.inr (Or.inr (Or.inr (Or.inr (Or.inr (this)))))))
  exact zq_in (List.mem_append_right _ m) g
theorem zq_iN8 {w : Cond} {i : Nat} (h : tables_1_8[i]? = some w) (g : zq_isN w = true) : w ∈ zq_nw := by
  have this := List.mem_of_getElem? h
  have m : w ∈ tables_1 := by simp only [tables_1, List.mem_append]; exact Or.inr (Or.inr (Or.inr (Or.inr (Or.inr (Or.inr (Or.inr (this)))))))
  exact List.mem_filter.mpr ⟨m, g⟩
theorem zw_127 : Cond.laysFinal RX0 RX0 "past" "[J" ∈ zq_tb := zq_in1 (i := 127) rfl rfl
theorem zw_129 : Cond.laysFinal RX0 RX0 "kept" "[J" ∈ zq_tb := zq_in1 (i := 129) rfl rfl
theorem zw_131 : Cond.lays RX0 RX0 "holders" "J" ∈ zq_tb := zq_in1 (i := 131) rfl rfl
theorem zw_133 : Cond.lays RX0 RX0 "pasts" "I" ∈ zq_tb := zq_in1 (i := 133) rfl rfl
theorem zw_135 : Cond.lays RX0 RX0 "whichKept" "I" ∈ zq_tb := zq_in1 (i := 135) rfl rfl
theorem zF0_in : ∀ w ∈ u_ws RX0 TX0 5, w ∈ zq_tb := by
  intro w hw
  obtain ⟨k, hk, rfl⟩ := List.mem_map.mp hw
  have hk := List.mem_range.mp hk
  match k, hk with
  | 0, _ => exact zw_127
  | 1, _ => exact zw_129
  | 2, _ => exact zw_131
  | 3, _ => exact zw_133
  | 4, _ => exact zw_135
  | k + 5, hk => exact absurd hk (by omega)
theorem zF0 : zq_F 0 RX0 TX0 5 := ⟨rfl, zF0_in, ⟨tyX0, tyX0_ok⟩, nmX0, by decide +kernel⟩
theorem zw_154 : Cond.laysFinal RX1 RX1 "taken" "[I" ∈ zq_tb := zq_in1 (i := 154) rfl rfl
theorem zw_156 : Cond.laysFinal RX1 RX1 "left" "[I" ∈ zq_tb := zq_in1 (i := 156) rfl rfl
theorem zw_158 : Cond.laysFinal RX1 RX1 "tried" "[I" ∈ zq_tb := zq_in1 (i := 158) rfl rfl
theorem zw_160 : Cond.laysFinal RX1 RX1 "leastTastes" "[I" ∈ zq_tb := zq_in1 (i := 160) rfl rfl
theorem zw_162 : Cond.laysFinal RX1 RX1 "asked" "[I" ∈ zq_tb := zq_in1 (i := 162) rfl rfl
theorem zw_164 : Cond.laysFinal RX1 RX1 "noLess" "[I" ∈ zq_tb := zq_in1 (i := 164) rfl rfl
theorem zw_166 : Cond.lays RX1 RX1 "known" "I" ∈ zq_tb := zq_in1 (i := 166) rfl rfl
theorem zw_168 : Cond.lays RX1 RX1 "size" "I" ∈ zq_tb := zq_in1 (i := 168) rfl rfl
theorem zF1_in : ∀ w ∈ u_ws RX1 TX1 8, w ∈ zq_tb := by
  intro w hw
  obtain ⟨k, hk, rfl⟩ := List.mem_map.mp hw
  have hk := List.mem_range.mp hk
  match k, hk with
  | 0, _ => exact zw_154
  | 1, _ => exact zw_156
  | 2, _ => exact zw_158
  | 3, _ => exact zw_160
  | 4, _ => exact zw_162
  | 5, _ => exact zw_164
  | 6, _ => exact zw_166
  | 7, _ => exact zw_168
  | k + 8, hk => exact absurd hk (by omega)
theorem zF1 : zq_F 1 RX1 TX1 8 := ⟨rfl, zF1_in, ⟨tyX1, tyX1_ok⟩, nmX1, by decide +kernel⟩
theorem zw_275 : Cond.laysFinal RX2 RX2 "crumbs" "[I" ∈ zq_tb := zq_in2 (i := 35) rfl rfl
theorem zw_277 : Cond.laysFinal RX2 RX2 "raisins" "[I" ∈ zq_tb := zq_in2 (i := 37) rfl rfl
theorem zw_279 : Cond.laysFinal RX2 RX2 "crust" "[I" ∈ zq_tb := zq_in2 (i := 39) rfl rfl
theorem zw_281 : Cond.lays RX2 RX2 "cells" "I" ∈ zq_tb := zq_in2 (i := 41) rfl rfl
theorem zF2_in : ∀ w ∈ u_ws RX2 TX2 4, w ∈ zq_tb := by
  intro w hw
  obtain ⟨k, hk, rfl⟩ := List.mem_map.mp hw
  have hk := List.mem_range.mp hk
  match k, hk with
  | 0, _ => exact zw_275
  | 1, _ => exact zw_277
  | 2, _ => exact zw_279
  | 3, _ => exact zw_281
  | k + 4, hk => exact absurd hk (by omega)
theorem zF2 : zq_F 2 RX2 TX2 4 := ⟨rfl, zF2_in, ⟨tyX2, tyX2_ok⟩, nmX2, by decide +kernel⟩
theorem zw_86 : Cond.laysFinal RX3 RX3 "likes" "[I" ∈ zq_tb := zq_in1 (i := 86) rfl rfl
theorem zw_88 : Cond.laysFinal RX3 RX3 "deserts" "[I" ∈ zq_tb := zq_in1 (i := 88) rfl rfl
theorem zw_90 : Cond.laysFinal RX3 RX3 "earned" "[I" ∈ zq_tb := zq_in1 (i := 90) rfl rfl
theorem zw_92 : Cond.lays RX3 RX3 "size" "I" ∈ zq_tb := zq_in1 (i := 92) rfl rfl
theorem zF3_in : ∀ w ∈ u_ws RX3 TX3 4, w ∈ zq_tb := by
  intro w hw
  obtain ⟨k, hk, rfl⟩ := List.mem_map.mp hw
  have hk := List.mem_range.mp hk
  match k, hk with
  | 0, _ => exact zw_86
  | 1, _ => exact zw_88
  | 2, _ => exact zw_90
  | 3, _ => exact zw_92
  | k + 4, hk => exact absurd hk (by omega)
theorem zF3 : zq_F 3 RX3 TX3 4 := ⟨rfl, zF3_in, ⟨tyX3, tyX3_ok⟩, nmX3, by decide +kernel⟩
theorem zw_187 : Cond.laysFinal RX4 RX4 "who" "[I" ∈ zq_tb := zq_in1 (i := 187) rfl rfl
theorem zw_189 : Cond.laysFinal RX4 RX4 "times" "[J" ∈ zq_tb := zq_in1 (i := 189) rfl rfl
theorem zw_191 : Cond.laysFinal RX4 RX4 "need" "[J" ∈ zq_tb := zq_in1 (i := 191) rfl rfl
theorem zw_193 : Cond.laysFinal RX4 RX4 "reach" "[I" ∈ zq_tb := zq_in1 (i := 193) rfl rfl
theorem zw_195 : Cond.laysFinal RX4 RX4 "least" "[I" ∈ zq_tb := zq_in1 (i := 195) rfl rfl
theorem zw_197 : Cond.laysFinal RX4 RX4 "order" "[I" ∈ zq_tb := zq_in1 (i := 197) rfl rfl
theorem zw_199 : Cond.lays RX4 RX4 "members" "I" ∈ zq_tb := zq_in1 (i := 199) rfl rfl
theorem zw_201 : Cond.lays RX4 RX4 "cells" "I" ∈ zq_tb := zq_in1 (i := 201) rfl rfl
theorem zF4_in : ∀ w ∈ u_ws RX4 TX4 8, w ∈ zq_tb := by
  intro w hw
  obtain ⟨k, hk, rfl⟩ := List.mem_map.mp hw
  have hk := List.mem_range.mp hk
  match k, hk with
  | 0, _ => exact zw_187
  | 1, _ => exact zw_189
  | 2, _ => exact zw_191
  | 3, _ => exact zw_193
  | 4, _ => exact zw_195
  | 5, _ => exact zw_197
  | 6, _ => exact zw_199
  | 7, _ => exact zw_201
  | k + 8, hk => exact absurd hk (by omega)
theorem zF4 : zq_F 4 RX4 TX4 8 := ⟨rfl, zF4_in, ⟨tyX4, tyX4_ok⟩, nmX4, by decide +kernel⟩
theorem zw_65 : Cond.laysFinal RX5 RX5 "numbers" "[J" ∈ zq_tb := zq_in1 (i := 65) rfl rfl
theorem zw_67 : Cond.lays RX5 RX5 "size" "I" ∈ zq_tb := zq_in1 (i := 67) rfl rfl
theorem zF5_in : ∀ w ∈ u_ws RX5 TX5 2, w ∈ zq_tb := by
  intro w hw
  obtain ⟨k, hk, rfl⟩ := List.mem_map.mp hw
  have hk := List.mem_range.mp hk
  match k, hk with
  | 0, _ => exact zw_65
  | 1, _ => exact zw_67
  | k + 2, hk => exact absurd hk (by omega)
theorem zF5 : zq_F 5 RX5 TX5 2 := ⟨rfl, zF5_in, ⟨tyX5, tyX5_ok⟩, nmX5, by decide +kernel⟩
theorem zw_298 : Cond.laysFinal RX6 RX6 "steps" "[I" ∈ zq_tb := zq_in2 (i := 58) rfl rfl
theorem zw_300 : Cond.laysFinal RX6 RX6 "waiting" "[I" ∈ zq_tb := zq_in2 (i := 60) rfl rfl
theorem zw_302 : Cond.laysFinal RX6 RX6 "values" "[I" ∈ zq_tb := zq_in2 (i := 62) rfl rfl
theorem zw_304 : Cond.lays RX6 RX6 "size" "I" ∈ zq_tb := zq_in2 (i := 64) rfl rfl
theorem zw_306 : Cond.lays RX6 RX6 "waits" "I" ∈ zq_tb := zq_in2 (i := 66) rfl rfl
theorem zw_308 : Cond.lays RX6 RX6 "depth" "I" ∈ zq_tb := zq_in2 (i := 68) rfl rfl
theorem zw_310 : Cond.lays RX6 RX6 "compared" "I" ∈ zq_tb := zq_in2 (i := 70) rfl rfl
theorem zw_312 : Cond.lays RX6 RX6 "wantsThing" "Z" ∈ zq_tb := zq_in2 (i := 72) rfl rfl
theorem zF6_in : ∀ w ∈ u_ws RX6 TX6 8, w ∈ zq_tb := by
  intro w hw
  obtain ⟨k, hk, rfl⟩ := List.mem_map.mp hw
  have hk := List.mem_range.mp hk
  match k, hk with
  | 0, _ => exact zw_298
  | 1, _ => exact zw_300
  | 2, _ => exact zw_302
  | 3, _ => exact zw_304
  | 4, _ => exact zw_306
  | 5, _ => exact zw_308
  | 6, _ => exact zw_310
  | 7, _ => exact zw_312
  | k + 8, hk => exact absurd hk (by omega)
theorem zF6 : zq_F 6 RX6 TX6 8 := ⟨rfl, zF6_in, ⟨tyX6, tyX6_ok⟩, nmX6, by decide +kernel⟩
theorem zw_217 : Cond.laysFinal RX7 RX7 "starts" "[I" ∈ zq_tb := zq_in1 (i := 217) rfl rfl
theorem zw_219 : Cond.laysFinal RX7 RX7 "stops" "[I" ∈ zq_tb := zq_in1 (i := 219) rfl rfl
theorem zw_221 : Cond.laysFinal RX7 RX7 "owners" "[I" ∈ zq_tb := zq_in1 (i := 221) rfl rfl
theorem zw_223 : Cond.laysFinal RX7 RX7 "best" "[I" ∈ zq_tb := zq_in1 (i := 223) rfl rfl
theorem zw_225 : Cond.lays RX7 RX7 "guests" "I" ∈ zq_tb := zq_in1 (i := 225) rfl rfl
theorem zw_227 : Cond.lays RX7 RX7 "cells" "I" ∈ zq_tb := zq_in1 (i := 227) rfl rfl
theorem zw_229 : Cond.lays RX7 RX7 "found" "I" ∈ zq_tb := zq_in1 (i := 229) rfl rfl
theorem zF7_in : ∀ w ∈ u_ws RX7 TX7 7, w ∈ zq_tb := by
  intro w hw
  obtain ⟨k, hk, rfl⟩ := List.mem_map.mp hw
  have hk := List.mem_range.mp hk
  match k, hk with
  | 0, _ => exact zw_217
  | 1, _ => exact zw_219
  | 2, _ => exact zw_221
  | 3, _ => exact zw_223
  | 4, _ => exact zw_225
  | 5, _ => exact zw_227
  | 6, _ => exact zw_229
  | k + 7, hk => exact absurd hk (by omega)
theorem zF7 : zq_F 7 RX7 TX7 7 := ⟨rfl, zF7_in, ⟨tyX7, tyX7_ok⟩, nmX7, by decide +kernel⟩
theorem zw_45 : Cond.laysFinal RX8 RX8 "signs" "[I" ∈ zq_tb := zq_in1 (i := 45) rfl rfl
theorem zw_47 : Cond.lays RX8 RX8 "size" "I" ∈ zq_tb := zq_in1 (i := 47) rfl rfl
theorem zw_49 : Cond.lays RX8 RX8 "stop" "I" ∈ zq_tb := zq_in1 (i := 49) rfl rfl
theorem zw_51 : Cond.lays RX8 RX8 "place" "I" ∈ zq_tb := zq_in1 (i := 51) rfl rfl
theorem zF8_in : ∀ w ∈ u_ws RX8 TX8 4, w ∈ zq_tb := by
  intro w hw
  obtain ⟨k, hk, rfl⟩ := List.mem_map.mp hw
  have hk := List.mem_range.mp hk
  match k, hk with
  | 0, _ => exact zw_45
  | 1, _ => exact zw_47
  | 2, _ => exact zw_49
  | 3, _ => exact zw_51
  | k + 4, hk => exact absurd hk (by omega)
theorem zF8 : zq_F 8 RX8 TX8 4 := ⟨rfl, zF8_in, ⟨tyX8, tyX8_ok⟩, nmX8, by decide +kernel⟩
theorem zw_246 : Cond.laysFinal RX9 RX9 "whose" "[I" ∈ zq_tb := zq_in2 (i := 6) rfl rfl
theorem zw_248 : Cond.laysFinal RX9 RX9 "told" "[I" ∈ zq_tb := zq_in2 (i := 8) rfl rfl
theorem zw_250 : Cond.laysFinal RX9 RX9 "has" "[I" ∈ zq_tb := zq_in2 (i := 10) rfl rfl
theorem zw_252 : Cond.lays RX9 RX9 "size" "I" ∈ zq_tb := zq_in2 (i := 12) rfl rfl
theorem zF9_in : ∀ w ∈ u_ws RX9 TX9 4, w ∈ zq_tb := by
  intro w hw
  obtain ⟨k, hk, rfl⟩ := List.mem_map.mp hw
  have hk := List.mem_range.mp hk
  match k, hk with
  | 0, _ => exact zw_246
  | 1, _ => exact zw_248
  | 2, _ => exact zw_250
  | 3, _ => exact zw_252
  | k + 4, hk => exact absurd hk (by omega)
theorem zF9 : zq_F 9 RX9 TX9 4 := ⟨rfl, zF9_in, ⟨tyX9, tyX9_ok⟩, nmX9, by decide +kernel⟩
theorem zw_107 : Cond.laysFinal RX10 RX10 "each" "[I" ∈ zq_tb := zq_in1 (i := 107) rfl rfl
theorem zw_109 : Cond.laysFinal RX10 RX10 "ahead" "[I" ∈ zq_tb := zq_in1 (i := 109) rfl rfl
theorem zw_111 : Cond.lays RX10 RX10 "cells" "I" ∈ zq_tb := zq_in1 (i := 111) rfl rfl
theorem zF10_in : ∀ w ∈ u_ws RX10 TX10 3, w ∈ zq_tb := by
  intro w hw
  obtain ⟨k, hk, rfl⟩ := List.mem_map.mp hw
  have hk := List.mem_range.mp hk
  match k, hk with
  | 0, _ => exact zw_107
  | 1, _ => exact zw_109
  | 2, _ => exact zw_111
  | k + 3, hk => exact absurd hk (by omega)
theorem zF10 : zq_F 10 RX10 TX10 3 := ⟨rfl, zF10_in, ⟨tyX10, tyX10_ok⟩, nmX10, by decide +kernel⟩
theorem zw_331 : Cond.laysFinal RX11 RX11 "text" "LToOneCrumb$Text;" ∈ zq_tb := zq_in2 (i := 91) rfl rfl
theorem zw_333 : Cond.laysFinal RX11 RX11 "row" "LToOneCrumb$Row;" ∈ zq_tb := zq_in2 (i := 93) rfl rfl
theorem zw_335 : Cond.laysFinal RX11 RX11 "party" "LToOneCrumb$Party;" ∈ zq_tb := zq_in2 (i := 95) rfl rfl
theorem zw_337 : Cond.laysFinal RX11 RX11 "worths" "LToOneCrumb$Worths;" ∈ zq_tb := zq_in2 (i := 97) rfl rfl
theorem zw_339 : Cond.laysFinal RX11 RX11 "board" "LToOneCrumb$Board;" ∈ zq_tb := zq_in2 (i := 99) rfl rfl
theorem zw_341 : Cond.laysFinal RX11 RX11 "choices" "LToOneCrumb$Choices;" ∈ zq_tb := zq_in2 (i := 101) rfl rfl
theorem zw_343 : Cond.laysFinal RX11 RX11 "placing" "LToOneCrumb$Placing;" ∈ zq_tb := zq_in2 (i := 103) rfl rfl
theorem zw_345 : Cond.laysFinal RX11 RX11 "seating" "LToOneCrumb$Seating;" ∈ zq_tb := zq_in2 (i := 105) rfl rfl
theorem zw_347 : Cond.laysFinal RX11 RX11 "turns" "LToOneCrumb$Turns;" ∈ zq_tb := zq_in2 (i := 107) rfl rfl
theorem zw_349 : Cond.laysFinal RX11 RX11 "acts" "[I" ∈ zq_tb := zq_in2 (i := 109) rfl rfl
theorem zw_351 : Cond.laysFinal RX11 RX11 "leasts" "[I" ∈ zq_tb := zq_in2 (i := 111) rfl rfl
theorem zw_353 : Cond.lays RX11 RX11 "bread" "LToOneCrumb$Loaf;" ∈ zq_tb := zq_in2 (i := 113) rfl rfl
theorem zw_355 : Cond.lays RX11 RX11 "dough" "LToOneCrumb$Loaf;" ∈ zq_tb := zq_in2 (i := 115) rfl rfl
theorem zw_357 : Cond.lays RX11 RX11 "law" "LToOneCrumb$Rule;" ∈ zq_tb := zq_in2 (i := 117) rfl rfl
theorem zw_359 : Cond.lays RX11 RX11 "bill" "LToOneCrumb$Rule;" ∈ zq_tb := zq_in2 (i := 119) rfl rfl
theorem zw_361 : Cond.lays RX11 RX11 "actCount" "I" ∈ zq_tb := zq_in2 (i := 121) rfl rfl
theorem zF11_in : ∀ w ∈ u_ws RX11 TX11 16, w ∈ zq_tb := by
  intro w hw
  obtain ⟨k, hk, rfl⟩ := List.mem_map.mp hw
  have hk := List.mem_range.mp hk
  match k, hk with
  | 0, _ => exact zw_331
  | 1, _ => exact zw_333
  | 2, _ => exact zw_335
  | 3, _ => exact zw_337
  | 4, _ => exact zw_339
  | 5, _ => exact zw_341
  | 6, _ => exact zw_343
  | 7, _ => exact zw_345
  | 8, _ => exact zw_347
  | 9, _ => exact zw_349
  | 10, _ => exact zw_351
  | 11, _ => exact zw_353
  | 12, _ => exact zw_355
  | 13, _ => exact zw_357
  | 14, _ => exact zw_359
  | 15, _ => exact zw_361
  | k + 16, hk => exact absurd hk (by omega)
theorem zF11 : zq_F 11 RX11 TX11 16 := ⟨rfl, zF11_in, ⟨tyX11, tyX11_ok⟩, nmX11, by decide +kernel⟩
theorem zw_1163 : Cond.lays RX12 RX12 "thrown" "I" ∈ zq_tb := zq_in5 (i := 203) rfl rfl
theorem zw_1165 : Cond.lays RX12 RX12 "rows" "I" ∈ zq_tb := zq_in5 (i := 205) rfl rfl
theorem zw_1167 : Cond.laysFinal RX12 RX12 "row" "[J" ∈ zq_tb := zq_in5 (i := 207) rfl rfl
theorem zw_1169 : Cond.lays RX12 RX12 "cells" "I" ∈ zq_tb := zq_in5 (i := 209) rfl rfl
theorem zw_1171 : Cond.lays RX12 RX12 "guests" "I" ∈ zq_tb := zq_in5 (i := 211) rfl rfl
theorem zw_1173 : Cond.lays RX12 RX12 "loaves" "I" ∈ zq_tb := zq_in5 (i := 213) rfl rfl
theorem zw_1175 : Cond.laysFinal RX12 RX12 "crumbs" "[I" ∈ zq_tb := zq_in5 (i := 215) rfl rfl
theorem zw_1177 : Cond.laysFinal RX12 RX12 "raisins" "[I" ∈ zq_tb := zq_in5 (i := 217) rfl rfl
theorem zw_1179 : Cond.laysFinal RX12 RX12 "crust" "[Z" ∈ zq_tb := zq_in5 (i := 219) rfl rfl
theorem zw_1181 : Cond.laysFinal RX12 RX12 "tastes" "[I" ∈ zq_tb := zq_in5 (i := 221) rfl rfl
theorem zw_1183 : Cond.laysFinal RX12 RX12 "deserts" "[I" ∈ zq_tb := zq_in5 (i := 223) rfl rfl
theorem zw_1185 : Cond.laysFinal RX12 RX12 "now" "[I" ∈ zq_tb := zq_in5 (i := 225) rfl rfl
theorem zw_1187 : Cond.laysFinal RX12 RX12 "tape" "[I" ∈ zq_tb := zq_in5 (i := 227) rfl rfl
theorem zw_1189 : Cond.lays RX12 RX12 "taped" "I" ∈ zq_tb := zq_in5 (i := 229) rfl rfl
theorem zw_1191 : Cond.lays RX12 RX12 "at" "I" ∈ zq_tb := zq_in5 (i := 231) rfl rfl
theorem zw_1193 : Cond.lays RX12 RX12 "to" "I" ∈ zq_tb := zq_in5 (i := 233) rfl rfl
theorem zw_1195 : Cond.lays RX12 RX12 "nest" "I" ∈ zq_tb := zq_in5 (i := 235) rfl rfl
theorem zw_1197 : Cond.laysFinal RX12 RX12 "readCrumbs" "[I" ∈ zq_tb := zq_in5 (i := 237) rfl rfl
theorem zw_1199 : Cond.laysFinal RX12 RX12 "readRaisins" "[I" ∈ zq_tb := zq_in5 (i := 239) rfl rfl
theorem zw_1201 : Cond.laysFinal RX12 RX12 "readCrust" "[Z" ∈ zq_tb := zq_in6 (i := 1) rfl rfl
theorem zw_1203 : Cond.laysFinal RX12 RX12 "readTastes" "[I" ∈ zq_tb := zq_in6 (i := 3) rfl rfl
theorem zw_1205 : Cond.lays RX12 RX12 "readGuests" "I" ∈ zq_tb := zq_in6 (i := 5) rfl rfl
theorem zw_1207 : Cond.laysFinal RX12 RX12 "readDeserts" "[I" ∈ zq_tb := zq_in6 (i := 7) rfl rfl
theorem zw_1209 : Cond.laysFinal RX12 RX12 "code" "[I" ∈ zq_tb := zq_in6 (i := 9) rfl rfl
theorem zw_1211 : Cond.laysFinal RX12 RX12 "readCode" "[I" ∈ zq_tb := zq_in6 (i := 11) rfl rfl
theorem zw_1213 : Cond.lays RX12 RX12 "codeLong" "I" ∈ zq_tb := zq_in6 (i := 13) rfl rfl
theorem zw_1215 : Cond.lays RX12 RX12 "readLong" "I" ∈ zq_tb := zq_in6 (i := 15) rfl rfl
theorem zw_1217 : Cond.laysFinal RX12 RX12 "stack" "[I" ∈ zq_tb := zq_in6 (i := 17) rfl rfl
theorem zw_1219 : Cond.laysFinal RX12 RX12 "asked" "[I" ∈ zq_tb := zq_in6 (i := 19) rfl rfl
theorem zw_1221 : Cond.laysFinal RX12 RX12 "table" "[I" ∈ zq_tb := zq_in6 (i := 21) rfl rfl
theorem zw_1223 : Cond.laysFinal RX12 RX12 "whole" "[I" ∈ zq_tb := zq_in6 (i := 23) rfl rfl
theorem zw_1225 : Cond.lays RX12 RX12 "undos" "I" ∈ zq_tb := zq_in6 (i := 25) rfl rfl
theorem zw_1227 : Cond.laysFinal RX12 RX12 "undone" "[I" ∈ zq_tb := zq_in6 (i := 27) rfl rfl
theorem zw_1229 : Cond.laysFinal RX12 RX12 "actSign" "[I" ∈ zq_tb := zq_in6 (i := 29) rfl rfl
theorem zw_1231 : Cond.laysFinal RX12 RX12 "actOne" "[I" ∈ zq_tb := zq_in6 (i := 31) rfl rfl
theorem zw_1233 : Cond.laysFinal RX12 RX12 "actFrom" "[I" ∈ zq_tb := zq_in6 (i := 33) rfl rfl
theorem zw_1235 : Cond.laysFinal RX12 RX12 "actLast" "[I" ∈ zq_tb := zq_in6 (i := 35) rfl rfl
theorem zw_1237 : Cond.lays RX12 RX12 "acts" "I" ∈ zq_tb := zq_in6 (i := 37) rfl rfl
theorem zw_1239 : Cond.laysFinal RX12 RX12 "turn" "[I" ∈ zq_tb := zq_in6 (i := 39) rfl rfl
theorem zw_1241 : Cond.laysFinal RX12 RX12 "bestTurn" "[I" ∈ zq_tb := zq_in6 (i := 41) rfl rfl
theorem zw_1243 : Cond.lays RX12 RX12 "bestCells" "I" ∈ zq_tb := zq_in6 (i := 43) rfl rfl
theorem zw_1245 : Cond.laysFinal RX12 RX12 "partEnd" "[I" ∈ zq_tb := zq_in6 (i := 45) rfl rfl
theorem zw_1247 : Cond.laysFinal RX12 RX12 "bestEnd" "[I" ∈ zq_tb := zq_in6 (i := 47) rfl rfl
theorem zw_1249 : Cond.lays RX12 RX12 "bestLeast" "I" ∈ zq_tb := zq_in6 (i := 49) rfl rfl
theorem zw_1251 : Cond.laysFinal RX12 RX12 "whose" "[I" ∈ zq_tb := zq_in6 (i := 51) rfl rfl
theorem zw_1253 : Cond.laysFinal RX12 RX12 "firstWhose" "[I" ∈ zq_tb := zq_in6 (i := 53) rfl rfl
theorem zw_1255 : Cond.laysFinal RX12 RX12 "sliceWorth" "[I" ∈ zq_tb := zq_in6 (i := 55) rfl rfl
theorem zw_1257 : Cond.lays RX12 RX12 "calmMany" "I" ∈ zq_tb := zq_in6 (i := 57) rfl rfl
theorem zw_1259 : Cond.laysFinal RX12 RX12 "turns" "[I" ∈ zq_tb := zq_in6 (i := 59) rfl rfl
theorem zw_1261 : Cond.lays RX12 RX12 "turnMany" "I" ∈ zq_tb := zq_in6 (i := 61) rfl rfl
theorem zw_1263 : Cond.lays RX12 RX12 "taken" "I" ∈ zq_tb := zq_in6 (i := 63) rfl rfl
theorem zw_1265 : Cond.laysFinal RX12 RX12 "picks" "[I" ∈ zq_tb := zq_in6 (i := 65) rfl rfl
theorem zw_1267 : Cond.laysFinal RX12 RX12 "has" "[I" ∈ zq_tb := zq_in6 (i := 67) rfl rfl
theorem zw_1269 : Cond.lays RX12 RX12 "choices" "I" ∈ zq_tb := zq_in6 (i := 69) rfl rfl
theorem zw_1271 : Cond.laysFinal RX12 RX12 "choseOne" "[I" ∈ zq_tb := zq_in6 (i := 71) rfl rfl
theorem zw_1273 : Cond.laysFinal RX12 RX12 "choseOther" "[I" ∈ zq_tb := zq_in6 (i := 73) rfl rfl
theorem zw_1275 : Cond.laysFinal RX12 RX12 "thought" "[I" ∈ zq_tb := zq_in6 (i := 75) rfl rfl
theorem zw_1277 : Cond.laysFinal RX12 RX12 "byFirst" "[I" ∈ zq_tb := zq_in6 (i := 77) rfl rfl
theorem zw_1279 : Cond.laysFinal RX12 RX12 "bySecond" "[I" ∈ zq_tb := zq_in6 (i := 79) rfl rfl
theorem zw_1281 : Cond.laysFinal RX12 RX12 "claimWho" "[I" ∈ zq_tb := zq_in6 (i := 81) rfl rfl
theorem zw_1283 : Cond.laysFinal RX12 RX12 "claimed" "[I" ∈ zq_tb := zq_in6 (i := 83) rfl rfl
theorem zw_1285 : Cond.lays RX12 RX12 "up" "J" ∈ zq_tb := zq_in6 (i := 85) rfl rfl
theorem zw_1287 : Cond.lays RX12 RX12 "down" "J" ∈ zq_tb := zq_in6 (i := 87) rfl rfl
theorem zw_1289 : Cond.laysFinal RX12 RX12 "hadAll" "[I" ∈ zq_tb := zq_in6 (i := 89) rfl rfl
theorem zw_1291 : Cond.laysFinal RX12 RX12 "isKept" "[Z" ∈ zq_tb := zq_in6 (i := 91) rfl rfl
theorem zw_1293 : Cond.laysFinal RX12 RX12 "keptLoaves" "[I" ∈ zq_tb := zq_in6 (i := 93) rfl rfl
theorem zw_1295 : Cond.laysFinal RX12 RX12 "kept" "[I" ∈ zq_tb := zq_in6 (i := 95) rfl rfl
theorem zF12_in : ∀ w ∈ u_ws RX12 TX12 67, w ∈ zq_tb := by
  intro w hw
  obtain ⟨k, hk, rfl⟩ := List.mem_map.mp hw
  have hk := List.mem_range.mp hk
  match k, hk with
  | 0, _ => exact zw_1163
  | 1, _ => exact zw_1165
  | 2, _ => exact zw_1167
  | 3, _ => exact zw_1169
  | 4, _ => exact zw_1171
  | 5, _ => exact zw_1173
  | 6, _ => exact zw_1175
  | 7, _ => exact zw_1177
  | 8, _ => exact zw_1179
  | 9, _ => exact zw_1181
  | 10, _ => exact zw_1183
  | 11, _ => exact zw_1185
  | 12, _ => exact zw_1187
  | 13, _ => exact zw_1189
  | 14, _ => exact zw_1191
  | 15, _ => exact zw_1193
  | 16, _ => exact zw_1195
  | 17, _ => exact zw_1197
  | 18, _ => exact zw_1199
  | 19, _ => exact zw_1201
  | 20, _ => exact zw_1203
  | 21, _ => exact zw_1205
  | 22, _ => exact zw_1207
  | 23, _ => exact zw_1209
  | 24, _ => exact zw_1211
  | 25, _ => exact zw_1213
  | 26, _ => exact zw_1215
  | 27, _ => exact zw_1217
  | 28, _ => exact zw_1219
  | 29, _ => exact zw_1221
  | 30, _ => exact zw_1223
  | 31, _ => exact zw_1225
  | 32, _ => exact zw_1227
  | 33, _ => exact zw_1229
  | 34, _ => exact zw_1231
  | 35, _ => exact zw_1233
  | 36, _ => exact zw_1235
  | 37, _ => exact zw_1237
  | 38, _ => exact zw_1239
  | 39, _ => exact zw_1241
  | 40, _ => exact zw_1243
  | 41, _ => exact zw_1245
  | 42, _ => exact zw_1247
  | 43, _ => exact zw_1249
  | 44, _ => exact zw_1251
  | 45, _ => exact zw_1253
  | 46, _ => exact zw_1255
  | 47, _ => exact zw_1257
  | 48, _ => exact zw_1259
  | 49, _ => exact zw_1261
  | 50, _ => exact zw_1263
  | 51, _ => exact zw_1265
  | 52, _ => exact zw_1267
  | 53, _ => exact zw_1269
  | 54, _ => exact zw_1271
  | 55, _ => exact zw_1273
  | 56, _ => exact zw_1275
  | 57, _ => exact zw_1277
  | 58, _ => exact zw_1279
  | 59, _ => exact zw_1281
  | 60, _ => exact zw_1283
  | 61, _ => exact zw_1285
  | 62, _ => exact zw_1287
  | 63, _ => exact zw_1289
  | 64, _ => exact zw_1291
  | 65, _ => exact zw_1293
  | 66, _ => exact zw_1295
  | k + 67, hk => exact absurd hk (by omega)
theorem zF12 : zq_F 12 RX12 TX12 67 := ⟨rfl, zF12_in, ⟨tyX12, tyX12_ok⟩, nmX12, by decide +kernel⟩
theorem zw_1 : Cond.initialized RX11 ∈ zq_tb := zq_in1 (i := 1) rfl rfl
theorem zw_2 : Cond.initialized RX8 ∈ zq_tb := zq_in1 (i := 2) rfl rfl
theorem zw_3 : Cond.initialized RX5 ∈ zq_tb := zq_in1 (i := 3) rfl rfl
theorem zw_4 : Cond.initialized RX3 ∈ zq_tb := zq_in1 (i := 4) rfl rfl
theorem zw_5 : Cond.initialized RX10 ∈ zq_tb := zq_in1 (i := 5) rfl rfl
theorem zw_6 : Cond.initialized RX0 ∈ zq_tb := zq_in1 (i := 6) rfl rfl
theorem zw_7 : Cond.initialized RX1 ∈ zq_tb := zq_in1 (i := 7) rfl rfl
theorem zw_8 : Cond.initialized RX4 ∈ zq_tb := zq_in1 (i := 8) rfl rfl
theorem zw_9 : Cond.initialized RX7 ∈ zq_tb := zq_in1 (i := 9) rfl rfl
theorem zw_10 : Cond.initialized RX9 ∈ zq_tb := zq_in1 (i := 10) rfl rfl
theorem zw_11 : Cond.initialized RX2 ∈ zq_tb := zq_in1 (i := 11) rfl rfl
theorem zw_12 : Cond.initialized RX6 ∈ zq_tb := zq_in1 (i := 12) rfl rfl
theorem zw_13 : Cond.initialized RX12 ∈ zq_tb := zq_in1 (i := 13) rfl rfl
theorem zw_14 : Cond.initialized RJ9 ∈ zq_tb := zq_in1 (i := 14) rfl rfl
theorem zw_15 : Cond.initialized RJ0 ∈ zq_tb := zq_in1 (i := 15) rfl rfl
theorem zw_16 : Cond.initialized RJ1 ∈ zq_tb := zq_in1 (i := 16) rfl rfl
theorem zw_17 : Cond.initialized RJ3 ∈ zq_tb := zq_in1 (i := 17) rfl rfl
theorem zw_18 : Cond.initialized RJ2 ∈ zq_tb := zq_in1 (i := 18) rfl rfl
theorem zw_19 : Cond.initialized RJ7 ∈ zq_tb := zq_in1 (i := 19) rfl rfl
theorem zw_24 : Cond.initialized "java/lang/System" ∈ zq_tb := zq_in1 (i := 24) rfl rfl
theorem zw_25 : Cond.initialized RJ6 ∈ zq_tb := zq_in1 (i := 25) rfl rfl
theorem zw_40 : Cond.fieldLink RX8 11 RX8 "signs" "[I" ∈ zq_tb := zq_in1 (i := 40) rfl rfl
theorem zw_41 : Cond.fieldLink RX8 15 RX8 "size" "I" ∈ zq_tb := zq_in1 (i := 41) rfl rfl
theorem zw_42 : Cond.fieldLinkNest RX11 378 RX8 "size" "I" "ToOneCrumb" ∈ zq_nw := zq_iN1 (i := 42) rfl rfl
theorem zw_43 : Cond.fieldLink RX8 28 RX8 "stop" "I" ∈ zq_tb := zq_in1 (i := 43) rfl rfl
theorem zw_44 : Cond.fieldLink RX8 19 RX8 "place" "I" ∈ zq_tb := zq_in1 (i := 44) rfl rfl
theorem zw_61 : Cond.fieldLink RX5 9 RX5 "numbers" "[J" ∈ zq_tb := zq_in1 (i := 61) rfl rfl
theorem zw_62 : Cond.fieldLinkNest RX11 381 RX5 "numbers" "[J" "ToOneCrumb" ∈ zq_nw := zq_iN1 (i := 62) rfl rfl
theorem zw_63 : Cond.fieldLink RX5 15 RX5 "size" "I" ∈ zq_tb := zq_in1 (i := 63) rfl rfl
theorem zw_64 : Cond.fieldLinkNest RX11 377 RX5 "size" "I" "ToOneCrumb" ∈ zq_nw := zq_iN1 (i := 64) rfl rfl
theorem zw_77 : Cond.fieldLink RX3 9 RX3 "likes" "[I" ∈ zq_tb := zq_in1 (i := 77) rfl rfl
theorem zw_78 : Cond.fieldLinkNest RX10 30 RX3 "likes" "[I" "ToOneCrumb" ∈ zq_nw := zq_iN1 (i := 78) rfl rfl
theorem zw_79 : Cond.fieldLinkNest RX11 198 RX3 "likes" "[I" "ToOneCrumb" ∈ zq_nw := zq_iN1 (i := 79) rfl rfl
theorem zw_80 : Cond.fieldLink RX3 15 RX3 "deserts" "[I" ∈ zq_tb := zq_in1 (i := 80) rfl rfl
theorem zw_81 : Cond.fieldLinkNest RX11 176 RX3 "deserts" "[I" "ToOneCrumb" ∈ zq_nw := zq_iN1 (i := 81) rfl rfl
theorem zw_82 : Cond.fieldLink RX3 18 RX3 "earned" "[I" ∈ zq_tb := zq_in1 (i := 82) rfl rfl
theorem zw_83 : Cond.fieldLinkNest RX10 25 RX3 "size" "I" "ToOneCrumb" ∈ zq_nw := zq_iN1 (i := 83) rfl rfl
theorem zw_84 : Cond.fieldLink RX3 31 RX3 "size" "I" ∈ zq_tb := zq_in1 (i := 84) rfl rfl
theorem zw_85 : Cond.fieldLinkNest RX11 243 RX3 "size" "I" "ToOneCrumb" ∈ zq_nw := zq_iN1 (i := 85) rfl rfl
theorem zw_101 : Cond.fieldLink RX10 9 RX10 "each" "[I" ∈ zq_tb := zq_in1 (i := 101) rfl rfl
theorem zw_102 : Cond.fieldLinkNest RX9 39 RX10 "each" "[I" "ToOneCrumb" ∈ zq_nw := zq_iN1 (i := 102) rfl rfl
theorem zw_103 : Cond.fieldLink RX10 15 RX10 "ahead" "[I" ∈ zq_tb := zq_in1 (i := 103) rfl rfl
theorem zw_104 : Cond.fieldLink RX10 24 RX10 "cells" "I" ∈ zq_tb := zq_in1 (i := 104) rfl rfl
theorem zw_105 : Cond.fieldLinkNest RX7 34 RX10 "cells" "I" "ToOneCrumb" ∈ zq_nw := zq_iN1 (i := 105) rfl rfl
theorem zw_106 : Cond.fieldLinkNest RX9 56 RX10 "cells" "I" "ToOneCrumb" ∈ zq_nw := zq_iN1 (i := 106) rfl rfl
theorem zw_120 : Cond.fieldLink RX0 11 RX0 "past" "[J" ∈ zq_tb := zq_in1 (i := 120) rfl rfl
theorem zw_121 : Cond.fieldLink RX0 15 RX0 "kept" "[J" ∈ zq_tb := zq_in1 (i := 121) rfl rfl
theorem zw_122 : Cond.fieldLink RX0 18 RX0 "holders" "J" ∈ zq_tb := zq_in1 (i := 122) rfl rfl
theorem zw_123 : Cond.fieldLinkNest RX11 204 RX0 "holders" "J" "ToOneCrumb" ∈ zq_nw := zq_iN1 (i := 123) rfl rfl
theorem zw_124 : Cond.fieldLink RX0 26 RX0 "pasts" "I" ∈ zq_tb := zq_in1 (i := 124) rfl rfl
theorem zw_125 : Cond.fieldLinkNest RX11 374 RX0 "pasts" "I" "ToOneCrumb" ∈ zq_nw := zq_iN1 (i := 125) rfl rfl
theorem zw_126 : Cond.fieldLink RX0 30 RX0 "whichKept" "I" ∈ zq_tb := zq_in1 (i := 126) rfl rfl
theorem zw_144 : Cond.fieldLink RX1 11 RX1 "taken" "[I" ∈ zq_tb := zq_in1 (i := 144) rfl rfl
theorem zw_145 : Cond.fieldLink RX1 15 RX1 "left" "[I" ∈ zq_tb := zq_in1 (i := 145) rfl rfl
theorem zw_146 : Cond.fieldLink RX1 18 RX1 "tried" "[I" ∈ zq_tb := zq_in1 (i := 146) rfl rfl
theorem zw_147 : Cond.fieldLink RX1 21 RX1 "leastTastes" "[I" ∈ zq_tb := zq_in1 (i := 147) rfl rfl
theorem zw_148 : Cond.fieldLinkNest RX11 315 RX1 "leastTastes" "[I" "ToOneCrumb" ∈ zq_nw := zq_iN1 (i := 148) rfl rfl
theorem zw_149 : Cond.fieldLink RX1 24 RX1 "asked" "[I" ∈ zq_tb := zq_in1 (i := 149) rfl rfl
theorem zw_150 : Cond.fieldLink RX1 27 RX1 "noLess" "[I" ∈ zq_tb := zq_in1 (i := 150) rfl rfl
theorem zw_151 : Cond.fieldLink RX1 69 RX1 "known" "I" ∈ zq_tb := zq_in1 (i := 151) rfl rfl
theorem zw_152 : Cond.fieldLink RX1 30 RX1 "size" "I" ∈ zq_tb := zq_in1 (i := 152) rfl rfl
theorem zw_153 : Cond.fieldLinkNest RX11 121 RX1 "size" "I" "ToOneCrumb" ∈ zq_nw := zq_iN1 (i := 153) rfl rfl
theorem zw_177 : Cond.fieldLink RX4 11 RX4 "who" "[I" ∈ zq_tb := zq_in1 (i := 177) rfl rfl
theorem zw_178 : Cond.fieldLink RX4 15 RX4 "times" "[J" ∈ zq_tb := zq_in1 (i := 178) rfl rfl
theorem zw_179 : Cond.fieldLink RX4 19 RX4 "need" "[J" ∈ zq_tb := zq_in1 (i := 179) rfl rfl
theorem zw_180 : Cond.fieldLink RX4 22 RX4 "reach" "[I" ∈ zq_tb := zq_in1 (i := 180) rfl rfl
theorem zw_181 : Cond.fieldLink RX4 25 RX4 "least" "[I" ∈ zq_tb := zq_in1 (i := 181) rfl rfl
theorem zw_182 : Cond.fieldLinkNest RX11 270 RX4 "least" "[I" "ToOneCrumb" ∈ zq_nw := zq_iN1 (i := 182) rfl rfl
theorem zw_183 : Cond.fieldLink RX4 28 RX4 "order" "[I" ∈ zq_tb := zq_in1 (i := 183) rfl rfl
theorem zw_184 : Cond.fieldLink RX4 31 RX4 "members" "I" ∈ zq_tb := zq_in1 (i := 184) rfl rfl
theorem zw_185 : Cond.fieldLinkNest RX11 334 RX4 "members" "I" "ToOneCrumb" ∈ zq_nw := zq_iN1 (i := 185) rfl rfl
theorem zw_186 : Cond.fieldLink RX4 35 RX4 "cells" "I" ∈ zq_tb := zq_in1 (i := 186) rfl rfl
theorem zw_210 : Cond.fieldLink RX7 9 RX7 "starts" "[I" ∈ zq_tb := zq_in1 (i := 210) rfl rfl
theorem zw_211 : Cond.fieldLink RX7 15 RX7 "stops" "[I" ∈ zq_tb := zq_in1 (i := 211) rfl rfl
theorem zw_212 : Cond.fieldLink RX7 18 RX7 "owners" "[I" ∈ zq_tb := zq_in1 (i := 212) rfl rfl
theorem zw_213 : Cond.fieldLink RX7 21 RX7 "best" "[I" ∈ zq_tb := zq_in1 (i := 213) rfl rfl
theorem zw_214 : Cond.fieldLink RX7 30 RX7 "guests" "I" ∈ zq_tb := zq_in1 (i := 214) rfl rfl
theorem zw_215 : Cond.fieldLink RX7 39 RX7 "cells" "I" ∈ zq_tb := zq_in1 (i := 215) rfl rfl
theorem zw_216 : Cond.fieldLink RX7 40 RX7 "found" "I" ∈ zq_tb := zq_in1 (i := 216) rfl rfl
theorem zw_238 : Cond.fieldLink RX9 9 RX9 "whose" "[I" ∈ zq_tb := zq_in1 (i := 238) rfl rfl
theorem zw_239 : Cond.fieldLinkNest RX11 365 RX9 "whose" "[I" "ToOneCrumb" ∈ zq_nw := zq_iN1 (i := 239) rfl rfl
theorem zw_240 : Cond.fieldLink RX9 15 RX9 "told" "[I" ∈ zq_tb := zq_in2 (i := 0) rfl rfl
theorem zw_241 : Cond.fieldLinkNest RX11 419 RX9 "told" "[I" "ToOneCrumb" ∈ zq_nw := zq_iN2 (i := 1) rfl rfl
theorem zw_242 : Cond.fieldLink RX9 18 RX9 "has" "[I" ∈ zq_tb := zq_in2 (i := 2) rfl rfl
theorem zw_243 : Cond.fieldLinkNest RX11 302 RX9 "has" "[I" "ToOneCrumb" ∈ zq_nw := zq_iN2 (i := 3) rfl rfl
theorem zw_244 : Cond.fieldLink RX9 27 RX9 "size" "I" ∈ zq_tb := zq_in2 (i := 4) rfl rfl
theorem zw_245 : Cond.fieldLinkNest RX11 363 RX9 "size" "I" "ToOneCrumb" ∈ zq_nw := zq_iN2 (i := 5) rfl rfl
theorem zw_261 : Cond.fieldLink RX2 9 RX2 "crumbs" "[I" ∈ zq_tb := zq_in2 (i := 21) rfl rfl
theorem zw_262 : Cond.fieldLinkNest RX11 159 RX2 "crumbs" "[I" "ToOneCrumb" ∈ zq_nw := zq_iN2 (i := 22) rfl rfl
theorem zw_263 : Cond.fieldLinkNest RX6 88 RX2 "crumbs" "[I" "ToOneCrumb" ∈ zq_nw := zq_iN2 (i := 23) rfl rfl
theorem zw_264 : Cond.fieldLink RX2 15 RX2 "raisins" "[I" ∈ zq_tb := zq_in2 (i := 24) rfl rfl
theorem zw_265 : Cond.fieldLinkNest RX11 162 RX2 "raisins" "[I" "ToOneCrumb" ∈ zq_nw := zq_iN2 (i := 25) rfl rfl
theorem zw_266 : Cond.fieldLinkNest RX6 93 RX2 "raisins" "[I" "ToOneCrumb" ∈ zq_nw := zq_iN2 (i := 26) rfl rfl
theorem zw_267 : Cond.fieldLink RX2 18 RX2 "crust" "[I" ∈ zq_tb := zq_in2 (i := 27) rfl rfl
theorem zw_268 : Cond.fieldLinkNest RX11 165 RX2 "crust" "[I" "ToOneCrumb" ∈ zq_nw := zq_iN2 (i := 28) rfl rfl
theorem zw_269 : Cond.fieldLinkNest RX6 96 RX2 "crust" "[I" "ToOneCrumb" ∈ zq_nw := zq_iN2 (i := 29) rfl rfl
theorem zw_270 : Cond.fieldLinkNest RX10 18 RX2 "cells" "I" "ToOneCrumb" ∈ zq_nw := zq_iN2 (i := 30) rfl rfl
theorem zw_271 : Cond.fieldLink RX2 27 RX2 "cells" "I" ∈ zq_tb := zq_in2 (i := 31) rfl rfl
theorem zw_272 : Cond.fieldLinkNest RX1 50 RX2 "cells" "I" "ToOneCrumb" ∈ zq_nw := zq_iN2 (i := 32) rfl rfl
theorem zw_273 : Cond.fieldLinkNest RX11 128 RX2 "cells" "I" "ToOneCrumb" ∈ zq_nw := zq_iN2 (i := 33) rfl rfl
theorem zw_274 : Cond.fieldLinkNest RX6 114 RX2 "cells" "I" "ToOneCrumb" ∈ zq_nw := zq_iN2 (i := 34) rfl rfl
theorem zw_290 : Cond.fieldLink RX6 11 RX6 "steps" "[I" ∈ zq_tb := zq_in2 (i := 50) rfl rfl
theorem zw_291 : Cond.fieldLink RX6 15 RX6 "waiting" "[I" ∈ zq_tb := zq_in2 (i := 51) rfl rfl
theorem zw_292 : Cond.fieldLink RX6 18 RX6 "values" "[I" ∈ zq_tb := zq_in2 (i := 52) rfl rfl
theorem zw_293 : Cond.fieldLink RX6 21 RX6 "size" "I" ∈ zq_tb := zq_in2 (i := 53) rfl rfl
theorem zw_294 : Cond.fieldLink RX6 25 RX6 "waits" "I" ∈ zq_tb := zq_in2 (i := 54) rfl rfl
theorem zw_295 : Cond.fieldLink RX6 28 RX6 "depth" "I" ∈ zq_tb := zq_in2 (i := 55) rfl rfl
theorem zw_296 : Cond.fieldLink RX6 31 RX6 "compared" "I" ∈ zq_tb := zq_in2 (i := 56) rfl rfl
theorem zw_297 : Cond.fieldLink RX6 34 RX6 "wantsThing" "Z" ∈ zq_tb := zq_in2 (i := 57) rfl rfl
theorem zw_315 : Cond.fieldLink RX11 10 RX11 "text" "LToOneCrumb$Text;" ∈ zq_tb := zq_in2 (i := 75) rfl rfl
theorem zw_316 : Cond.fieldLink RX11 19 RX11 "row" "LToOneCrumb$Row;" ∈ zq_tb := zq_in2 (i := 76) rfl rfl
theorem zw_317 : Cond.fieldLink RX11 26 RX11 "party" "LToOneCrumb$Party;" ∈ zq_tb := zq_in2 (i := 77) rfl rfl
theorem zw_318 : Cond.fieldLink RX11 33 RX11 "worths" "LToOneCrumb$Worths;" ∈ zq_tb := zq_in2 (i := 78) rfl rfl
theorem zw_319 : Cond.fieldLink RX11 40 RX11 "board" "LToOneCrumb$Board;" ∈ zq_tb := zq_in2 (i := 79) rfl rfl
theorem zw_320 : Cond.fieldLink RX11 47 RX11 "choices" "LToOneCrumb$Choices;" ∈ zq_tb := zq_in2 (i := 80) rfl rfl
theorem zw_321 : Cond.fieldLink RX11 54 RX11 "placing" "LToOneCrumb$Placing;" ∈ zq_tb := zq_in2 (i := 81) rfl rfl
theorem zw_322 : Cond.fieldLink RX11 61 RX11 "seating" "LToOneCrumb$Seating;" ∈ zq_tb := zq_in2 (i := 82) rfl rfl
theorem zw_323 : Cond.fieldLink RX11 68 RX11 "turns" "LToOneCrumb$Turns;" ∈ zq_tb := zq_in2 (i := 83) rfl rfl
theorem zw_324 : Cond.fieldLink RX11 72 RX11 "acts" "[I" ∈ zq_tb := zq_in2 (i := 84) rfl rfl
theorem zw_325 : Cond.fieldLink RX11 76 RX11 "leasts" "[I" ∈ zq_tb := zq_in2 (i := 85) rfl rfl
theorem zw_326 : Cond.fieldLink RX11 82 RX11 "bread" "LToOneCrumb$Loaf;" ∈ zq_tb := zq_in2 (i := 86) rfl rfl
theorem zw_327 : Cond.fieldLink RX11 86 RX11 "dough" "LToOneCrumb$Loaf;" ∈ zq_tb := zq_in2 (i := 87) rfl rfl
theorem zw_328 : Cond.fieldLink RX11 92 RX11 "law" "LToOneCrumb$Rule;" ∈ zq_tb := zq_in2 (i := 88) rfl rfl
theorem zw_329 : Cond.fieldLink RX11 96 RX11 "bill" "LToOneCrumb$Rule;" ∈ zq_tb := zq_in2 (i := 89) rfl rfl
theorem zw_330 : Cond.fieldLink RX11 226 RX11 "actCount" "I" ∈ zq_tb := zq_in2 (i := 90) rfl rfl
theorem zw_367 : Cond.code yX11_sign cX11_sign 2 (some .int) ∈ zq_tb := zq_in2 (i := 127) rfl rfl
theorem zw_368 : Cond.methodLink RX11 99 yX8_addFour ∈ zq_tb := zq_in2 (i := 128) rfl rfl
theorem zw_369 : Cond.instanceMethod yX8_addFour ∈ zq_tb := zq_in2 (i := 129) rfl rfl
theorem zw_370 : Cond.selects RX8 yX8_addFour yX8_addFour ∈ zq_tb := zq_in2 (i := 130) rfl rfl
theorem zw_371 : Cond.code yX8_addFour cX8_addFour 3 (some .int) ∈ zq_tb := zq_in2 (i := 131) rfl rfl
theorem zw_375 : Cond.code yX11_end cX11_end 2 (some .boolean) ∈ zq_tb := zq_in2 (i := 135) rfl rfl
theorem zw_376 : Cond.methodLink RX11 103 yX8_shorten ∈ zq_tb := zq_in2 (i := 136) rfl rfl
theorem zw_377 : Cond.instanceMethod yX8_shorten ∈ zq_tb := zq_in2 (i := 137) rfl rfl
theorem zw_378 : Cond.selects RX8 yX8_shorten yX8_shorten ∈ zq_tb := zq_in2 (i := 138) rfl rfl
theorem zw_379 : Cond.code yX8_shorten cX8_shorten 2 (some .boolean) ∈ zq_tb := zq_in2 (i := 139) rfl rfl
theorem zw_383 : Cond.code yX11_loaf cX11_loaf 3 (some .int) ∈ zq_tb := zq_in2 (i := 143) rfl rfl
theorem zw_384 : Cond.methodLink RX11 107 yX2_read ∈ zq_tb := zq_in2 (i := 144) rfl rfl
theorem zw_385 : Cond.instanceMethod yX2_read ∈ zq_tb := zq_in2 (i := 145) rfl rfl
theorem zw_386 : Cond.selects RX2 yX2_read yX2_read ∈ zq_tb := zq_in2 (i := 146) rfl rfl
theorem zw_387 : Cond.code yX2_read cX2_read 4 (some .boolean) ∈ zq_tb := zq_in2 (i := 147) rfl rfl
theorem zw_388 : Cond.methodLink RX2 21 yX8_start ∈ zq_tb := zq_in2 (i := 148) rfl rfl
theorem zw_389 : Cond.instanceMethod yX8_start ∈ zq_tb := zq_in2 (i := 149) rfl rfl
theorem zw_390 : Cond.selects RX8 yX8_start yX8_start ∈ zq_tb := zq_in2 (i := 150) rfl rfl
theorem zw_391 : Cond.code yX8_start cX8_start 2 none ∈ zq_tb := zq_in2 (i := 151) rfl rfl
theorem zw_392 : Cond.methodLink RX8 22 yJ9_min_7cf53 ∈ zq_tb := zq_in2 (i := 152) rfl rfl
theorem zw_393 : Cond.static yJ9_min_7cf53 ∈ zq_tb := zq_in2 (i := 153) rfl rfl
theorem zw_394 : Cond.code yJ9_min_7cf53 cJ9_min_7cf53 2 (some .int) ∈ zq_tb := zq_in2 (i := 154) rfl rfl
theorem zw_395 : Cond.methodLink RX2 31 yX8_isFinished ∈ zq_tb := zq_in2 (i := 155) rfl rfl
theorem zw_396 : Cond.instanceMethod yX8_isFinished ∈ zq_tb := zq_in2 (i := 156) rfl rfl
theorem zw_397 : Cond.selects RX8 yX8_isFinished yX8_isFinished ∈ zq_tb := zq_in2 (i := 157) rfl rfl
theorem zw_398 : Cond.code yX8_isFinished cX8_isFinished 1 (some .boolean) ∈ zq_tb := zq_in2 (i := 158) rfl rfl
theorem zw_399 : Cond.methodLink RX2 35 yX8_takeDigit ∈ zq_tb := zq_in2 (i := 159) rfl rfl
theorem zw_400 : Cond.instanceMethod yX8_takeDigit ∈ zq_tb := zq_in2 (i := 160) rfl rfl
theorem zw_401 : Cond.selects RX8 yX8_takeDigit yX8_takeDigit ∈ zq_tb := zq_in2 (i := 161) rfl rfl
theorem zw_402 : Cond.code yX8_takeDigit cX8_takeDigit 3 (some .int) ∈ zq_tb := zq_in2 (i := 162) rfl rfl
theorem zw_403 : Cond.methodLink RX8 31 yX8_next ∈ zq_tb := zq_in2 (i := 163) rfl rfl
theorem zw_404 : Cond.instanceMethod yX8_next ∈ zq_tb := zq_in2 (i := 164) rfl rfl
theorem zw_405 : Cond.selects RX8 yX8_next yX8_next ∈ zq_tb := zq_in2 (i := 165) rfl rfl
theorem zw_406 : Cond.code yX8_next cX8_next 1 (some .int) ∈ zq_tb := zq_in2 (i := 166) rfl rfl
theorem zw_407 : Cond.methodLink RX2 39 yX8_takeLetter ∈ zq_tb := zq_in2 (i := 167) rfl rfl
theorem zw_408 : Cond.instanceMethod yX8_takeLetter ∈ zq_tb := zq_in2 (i := 168) rfl rfl
theorem zw_409 : Cond.selects RX8 yX8_takeLetter yX8_takeLetter ∈ zq_tb := zq_in2 (i := 169) rfl rfl
theorem zw_410 : Cond.code yX8_takeLetter cX8_takeLetter 3 (some .int) ∈ zq_tb := zq_in2 (i := 170) rfl rfl
theorem zw_411 : Cond.methodLink RX2 42 yX8_skip ∈ zq_tb := zq_in2 (i := 171) rfl rfl
theorem zw_412 : Cond.instanceMethod yX8_skip ∈ zq_tb := zq_in2 (i := 172) rfl rfl
theorem zw_413 : Cond.selects RX8 yX8_skip yX8_skip ∈ zq_tb := zq_in2 (i := 173) rfl rfl
theorem zw_414 : Cond.code yX8_skip cX8_skip 2 (some .boolean) ∈ zq_tb := zq_in2 (i := 174) rfl rfl
theorem zw_415 : Cond.methodLink RX11 111 yX8_clear ∈ zq_tb := zq_in2 (i := 175) rfl rfl
theorem zw_416 : Cond.instanceMethod yX8_clear ∈ zq_tb := zq_in2 (i := 176) rfl rfl
theorem zw_417 : Cond.selects RX8 yX8_clear yX8_clear ∈ zq_tb := zq_in2 (i := 177) rfl rfl
theorem zw_418 : Cond.code yX8_clear cX8_clear 1 none ∈ zq_tb := zq_in2 (i := 178) rfl rfl
theorem zw_419 : Cond.methodLink RX11 114 yX8_fault ∈ zq_tb := zq_in2 (i := 179) rfl rfl
theorem zw_420 : Cond.instanceMethod yX8_fault ∈ zq_tb := zq_in2 (i := 180) rfl rfl
theorem zw_421 : Cond.selects RX8 yX8_fault yX8_fault ∈ zq_tb := zq_in2 (i := 181) rfl rfl
theorem zw_422 : Cond.code yX8_fault cX8_fault 1 (some .int) ∈ zq_tb := zq_in2 (i := 182) rfl rfl
theorem zw_426 : Cond.code yX0_startAnew cX0_startAnew 1 none ∈ zq_tb := zq_in2 (i := 186) rfl rfl
theorem zw_427 : Cond.methodLink RX11 125 yX11_renewWorths ∈ zq_tb := zq_in2 (i := 187) rfl rfl
theorem zw_429 : Cond.instanceMethod yX11_renewWorths ∈ zq_tb := zq_in2 (i := 189) rfl rfl
theorem zw_430 : Cond.code yX11_renewWorths cX11_renewWorths 1 none ∈ zq_tb := zq_in2 (i := 190) rfl rfl
theorem zw_431 : Cond.methodLink RX11 385 yX10_renew ∈ zq_tb := zq_in2 (i := 191) rfl rfl
theorem zw_432 : Cond.instanceMethod yX10_renew ∈ zq_tb := zq_in2 (i := 192) rfl rfl
theorem zw_433 : Cond.selects RX10 yX10_renew yX10_renew ∈ zq_tb := zq_in2 (i := 193) rfl rfl
theorem zw_434 : Cond.code yX10_renew cX10_renew 8 none ∈ zq_tb := zq_in2 (i := 194) rfl rfl
theorem zw_435 : Cond.methodLink RX10 33 yX6_worthOf ∈ zq_tb := zq_in2 (i := 195) rfl rfl
theorem zw_436 : Cond.instanceMethod yX6_worthOf ∈ zq_tb := zq_in2 (i := 196) rfl rfl
theorem zw_437 : Cond.selects RX6 yX6_worthOf yX6_worthOf ∈ zq_tb := zq_in2 (i := 197) rfl rfl
theorem zw_438 : Cond.code yX6_worthOf cX6_worthOf 7 (some .int) ∈ zq_tb := zq_in2 (i := 198) rfl rfl
theorem zw_439 : Cond.methodLink RX6 99 yX6_walk ∈ zq_tb := zq_in2 (i := 199) rfl rfl
theorem zw_441 : Cond.instanceMethod yX6_walk ∈ zq_tb := zq_in2 (i := 201) rfl rfl
theorem zw_442 : Cond.code yX6_walk cX6_walk 10 (some .int) ∈ zq_tb := zq_in2 (i := 202) rfl rfl
theorem zw_443 : Cond.methodLink RX6 79 yX6_strengthOf ∈ zq_tb := zq_in2 (i := 203) rfl rfl
theorem zw_444 : Cond.static yX6_strengthOf ∈ zq_tb := zq_in2 (i := 204) rfl rfl
theorem zw_445 : Cond.code yX6_strengthOf cX6_strengthOf 1 (some .int) ∈ zq_tb := zq_in2 (i := 205) rfl rfl
theorem zw_446 : Cond.methodLink RX6 106 yX6_valueOf ∈ zq_tb := zq_in2 (i := 206) rfl rfl
theorem zw_447 : Cond.static yX6_valueOf ∈ zq_tb := zq_in2 (i := 207) rfl rfl
theorem zw_448 : Cond.code yX6_valueOf cX6_valueOf 6 (some .int) ∈ zq_tb := zq_in2 (i := 208) rfl rfl
theorem zw_449 : Cond.methodLink RX6 110 yX6_joined ∈ zq_tb := zq_in2 (i := 209) rfl rfl
theorem zw_450 : Cond.static yX6_joined ∈ zq_tb := zq_in2 (i := 210) rfl rfl
theorem zw_451 : Cond.code yX6_joined cX6_joined 3 (some .int) ∈ zq_tb := zq_in2 (i := 211) rfl rfl
theorem zw_452 : Cond.methodLink RX6 103 yJ9_min_7cf53 ∈ zq_tb := zq_in2 (i := 212) rfl rfl
theorem zw_453 : Cond.methodLink RX6 82 yJ9_max_7cf53 ∈ zq_tb := zq_in2 (i := 213) rfl rfl
theorem zw_454 : Cond.static yJ9_max_7cf53 ∈ zq_tb := zq_in2 (i := 214) rfl rfl
theorem zw_455 : Cond.code yJ9_max_7cf53 cJ9_max_7cf53 2 (some .int) ∈ zq_tb := zq_in2 (i := 215) rfl rfl
theorem zw_459 : Cond.code yX11_guests cX11_guests 2 (some .int) ∈ zq_tb := zq_in2 (i := 219) rfl rfl
theorem zw_460 : Cond.methodLink RX11 131 yX3_readLines ∈ zq_tb := zq_in2 (i := 220) rfl rfl
theorem zw_461 : Cond.instanceMethod yX3_readLines ∈ zq_tb := zq_in2 (i := 221) rfl rfl
theorem zw_462 : Cond.selects RX3 yX3_readLines yX3_readLines ∈ zq_tb := zq_in2 (i := 222) rfl rfl
theorem zw_463 : Cond.code yX3_readLines cX3_readLines 5 (some .int) ∈ zq_tb := zq_in2 (i := 223) rfl rfl
theorem zw_464 : Cond.methodLink RX3 21 yX8_start ∈ zq_tb := zq_in2 (i := 224) rfl rfl
theorem zw_465 : Cond.methodLink RX3 27 yX8_isFinished ∈ zq_tb := zq_in2 (i := 225) rfl rfl
theorem zw_466 : Cond.methodLink RX3 35 yX8_takeDigit ∈ zq_tb := zq_in2 (i := 226) rfl rfl
theorem zw_467 : Cond.methodLink RX3 39 yX8_skip ∈ zq_tb := zq_in2 (i := 227) rfl rfl
theorem zw_468 : Cond.methodLink RX11 135 yX3_admit ∈ zq_tb := zq_in2 (i := 228) rfl rfl
theorem zw_469 : Cond.instanceMethod yX3_admit ∈ zq_tb := zq_in2 (i := 229) rfl rfl
theorem zw_470 : Cond.selects RX3 yX3_admit yX3_admit ∈ zq_tb := zq_in2 (i := 230) rfl rfl
theorem zw_471 : Cond.code yX3_admit cX3_admit 3 none ∈ zq_tb := zq_in2 (i := 231) rfl rfl
theorem zw_475 : Cond.code yX11_deeds cX11_deeds 2 (some .int) ∈ zq_tb := zq_in2 (i := 235) rfl rfl
theorem zw_476 : Cond.methodLink RX11 139 yX3_readDeeds ∈ zq_tb := zq_in2 (i := 236) rfl rfl
theorem zw_477 : Cond.instanceMethod yX3_readDeeds ∈ zq_tb := zq_in2 (i := 237) rfl rfl
theorem zw_478 : Cond.selects RX3 yX3_readDeeds yX3_readDeeds ∈ zq_tb := zq_in2 (i := 238) rfl rfl
theorem zw_479 : Cond.code yX3_readDeeds cX3_readDeeds 3 (some .boolean) ∈ zq_tb := zq_in2 (i := 239) rfl rfl
theorem zw_480 : Cond.methodLink RX3 43 yJ7_fill_53178 ∈ zq_tb := zq_in3 (i := 0) rfl rfl
theorem zw_481 : Cond.static yJ7_fill_53178 ∈ zq_tb := zq_in3 (i := 1) rfl rfl
theorem zw_482 : Cond.code yJ7_fill_53178 cJ7_fill_53178 4 none ∈ zq_tb := zq_in3 (i := 2) rfl rfl
theorem zw_483 : Cond.methodLink RX3 49 yX3_readDeed ∈ zq_tb := zq_in3 (i := 3) rfl rfl
theorem zw_485 : Cond.instanceMethod yX3_readDeed ∈ zq_tb := zq_in3 (i := 5) rfl rfl
theorem zw_486 : Cond.code yX3_readDeed cX3_readDeed 6 (some .boolean) ∈ zq_tb := zq_in3 (i := 6) rfl rfl
theorem zw_487 : Cond.methodLink RX3 53 yX8_next ∈ zq_tb := zq_in3 (i := 7) rfl rfl
theorem zw_488 : Cond.methodLink RX3 57 yX8_takeLetter ∈ zq_tb := zq_in3 (i := 8) rfl rfl
theorem zw_489 : Cond.methodLink RX11 142 yX3_judge ∈ zq_tb := zq_in3 (i := 9) rfl rfl
theorem zw_490 : Cond.instanceMethod yX3_judge ∈ zq_tb := zq_in3 (i := 10) rfl rfl
theorem zw_491 : Cond.selects RX3 yX3_judge yX3_judge ∈ zq_tb := zq_in3 (i := 11) rfl rfl
theorem zw_492 : Cond.code yX3_judge cX3_judge 2 none ∈ zq_tb := zq_in3 (i := 12) rfl rfl
theorem zw_493 : Cond.methodLink RX3 60 yJ9_max_7cf53 ∈ zq_tb := zq_in3 (i := 13) rfl rfl
theorem zw_494 : Cond.methodLink RX11 145 yX3_allDeserts ∈ zq_tb := zq_in3 (i := 14) rfl rfl
theorem zw_495 : Cond.instanceMethod yX3_allDeserts ∈ zq_tb := zq_in3 (i := 15) rfl rfl
theorem zw_496 : Cond.selects RX3 yX3_allDeserts yX3_allDeserts ∈ zq_tb := zq_in3 (i := 16) rfl rfl
theorem zw_497 : Cond.code yX3_allDeserts cX3_allDeserts 1 (some .int) ∈ zq_tb := zq_in3 (i := 17) rfl rfl
theorem zw_498 : Cond.methodLink RX3 66 yX3_desertsOf ∈ zq_tb := zq_in3 (i := 18) rfl rfl
theorem zw_499 : Cond.instanceMethod yX3_desertsOf ∈ zq_tb := zq_in3 (i := 19) rfl rfl
theorem zw_500 : Cond.selects RX3 yX3_desertsOf yX3_desertsOf ∈ zq_tb := zq_in3 (i := 20) rfl rfl
theorem zw_501 : Cond.code yX3_desertsOf cX3_desertsOf 4 (some .int) ∈ zq_tb := zq_in3 (i := 21) rfl rfl
theorem zw_505 : Cond.code yX11_rule cX11_rule 3 (some .int) ∈ zq_tb := zq_in3 (i := 25) rfl rfl
theorem zw_506 : Cond.methodLink RX11 148 yX6_read ∈ zq_tb := zq_in3 (i := 26) rfl rfl
theorem zw_507 : Cond.instanceMethod yX6_read ∈ zq_tb := zq_in3 (i := 27) rfl rfl
theorem zw_508 : Cond.selects RX6 yX6_read yX6_read ∈ zq_tb := zq_in3 (i := 28) rfl rfl
theorem zw_509 : Cond.code yX6_read cX6_read 4 (some .boolean) ∈ zq_tb := zq_in3 (i := 29) rfl rfl
theorem zw_510 : Cond.methodLink RX6 38 yX8_start ∈ zq_tb := zq_in3 (i := 30) rfl rfl
theorem zw_511 : Cond.methodLink RX6 44 yX8_isFinished ∈ zq_tb := zq_in3 (i := 31) rfl rfl
theorem zw_512 : Cond.methodLink RX6 48 yX8_next ∈ zq_tb := zq_in3 (i := 32) rfl rfl
theorem zw_513 : Cond.methodLink RX6 52 yX6_readThing ∈ zq_tb := zq_in3 (i := 33) rfl rfl
theorem zw_515 : Cond.instanceMethod yX6_readThing ∈ zq_tb := zq_in3 (i := 35) rfl rfl
theorem zw_516 : Cond.code yX6_readThing cX6_readThing 4 (some .boolean) ∈ zq_tb := zq_in3 (i := 36) rfl rfl
theorem zw_517 : Cond.methodLink RX6 62 yX8_takeNumber ∈ zq_tb := zq_in3 (i := 37) rfl rfl
theorem zw_518 : Cond.instanceMethod yX8_takeNumber ∈ zq_tb := zq_in3 (i := 38) rfl rfl
theorem zw_519 : Cond.selects RX8 yX8_takeNumber yX8_takeNumber ∈ zq_tb := zq_in3 (i := 39) rfl rfl
theorem zw_520 : Cond.code yX8_takeNumber cX8_takeNumber 5 (some .int) ∈ zq_tb := zq_in3 (i := 40) rfl rfl
theorem zw_521 : Cond.methodLink RX8 35 yX8_takeDigit ∈ zq_tb := zq_in3 (i := 41) rfl rfl
theorem zw_522 : Cond.methodLink RX6 66 yX6_addStep ∈ zq_tb := zq_in3 (i := 42) rfl rfl
theorem zw_524 : Cond.instanceMethod yX6_addStep ∈ zq_tb := zq_in3 (i := 44) rfl rfl
theorem zw_525 : Cond.code yX6_addStep cX6_addStep 2 none ∈ zq_tb := zq_in3 (i := 45) rfl rfl
theorem zw_526 : Cond.methodLink RX6 69 yX6_hold ∈ zq_tb := zq_in3 (i := 46) rfl rfl
theorem zw_528 : Cond.instanceMethod yX6_hold ∈ zq_tb := zq_in3 (i := 48) rfl rfl
theorem zw_529 : Cond.code yX6_hold cX6_hold 2 none ∈ zq_tb := zq_in3 (i := 49) rfl rfl
theorem zw_530 : Cond.methodLink RX6 72 yX6_isLetter ∈ zq_tb := zq_in3 (i := 50) rfl rfl
theorem zw_531 : Cond.static yX6_isLetter ∈ zq_tb := zq_in3 (i := 51) rfl rfl
theorem zw_532 : Cond.code yX6_isLetter cX6_isLetter 1 (some .boolean) ∈ zq_tb := zq_in3 (i := 52) rfl rfl
theorem zw_533 : Cond.methodLink RX6 76 yX8_skip ∈ zq_tb := zq_in3 (i := 53) rfl rfl
theorem zw_534 : Cond.methodLink RX6 56 yX6_readJoint ∈ zq_tb := zq_in3 (i := 54) rfl rfl
theorem zw_536 : Cond.instanceMethod yX6_readJoint ∈ zq_tb := zq_in3 (i := 56) rfl rfl
theorem zw_537 : Cond.code yX6_readJoint cX6_readJoint 4 (some .boolean) ∈ zq_tb := zq_in3 (i := 57) rfl rfl
theorem zw_538 : Cond.methodLink RX6 59 yX6_release ∈ zq_tb := zq_in3 (i := 58) rfl rfl
theorem zw_540 : Cond.instanceMethod yX6_release ∈ zq_tb := zq_in3 (i := 60) rfl rfl
theorem zw_541 : Cond.code yX6_release cX6_release 2 none ∈ zq_tb := zq_in3 (i := 61) rfl rfl
theorem zw_545 : Cond.code yX11_worth cX11_worth 3 (some .int) ∈ zq_tb := zq_in3 (i := 65) rfl rfl
theorem zw_546 : Cond.methodLink RX11 171 yX11_isGuest ∈ zq_tb := zq_in3 (i := 66) rfl rfl
theorem zw_548 : Cond.instanceMethod yX11_isGuest ∈ zq_tb := zq_in3 (i := 68) rfl rfl
theorem zw_549 : Cond.code yX11_isGuest cX11_isGuest 2 (some .boolean) ∈ zq_tb := zq_in3 (i := 69) rfl rfl
theorem zw_550 : Cond.methodLink RX11 149 yX11_isCell ∈ zq_tb := zq_in3 (i := 70) rfl rfl
theorem zw_552 : Cond.instanceMethod yX11_isCell ∈ zq_tb := zq_in3 (i := 72) rfl rfl
theorem zw_553 : Cond.code yX11_isCell cX11_isCell 2 (some .boolean) ∈ zq_tb := zq_in3 (i := 73) rfl rfl
theorem zw_554 : Cond.methodLink RX11 195 yX10_of ∈ zq_tb := zq_in3 (i := 74) rfl rfl
theorem zw_555 : Cond.instanceMethod yX10_of ∈ zq_tb := zq_in3 (i := 75) rfl rfl
theorem zw_556 : Cond.selects RX10 yX10_of yX10_of ∈ zq_tb := zq_in3 (i := 76) rfl rfl
theorem zw_557 : Cond.code yX10_of cX10_of 3 (some .int) ∈ zq_tb := zq_in3 (i := 77) rfl rfl
theorem zw_561 : Cond.code yX11_taste cX11_taste 5 (some .int) ∈ zq_tb := zq_in3 (i := 81) rfl rfl
theorem zw_562 : Cond.methodLink RX11 192 yX3_tasteOf ∈ zq_tb := zq_in3 (i := 82) rfl rfl
theorem zw_563 : Cond.instanceMethod yX3_tasteOf ∈ zq_tb := zq_in3 (i := 83) rfl rfl
theorem zw_564 : Cond.selects RX3 yX3_tasteOf yX3_tasteOf ∈ zq_tb := zq_in3 (i := 84) rfl rfl
theorem zw_565 : Cond.code yX3_tasteOf cX3_tasteOf 3 (some .int) ∈ zq_tb := zq_in3 (i := 85) rfl rfl
theorem zw_569 : Cond.code yX11_sheet cX11_sheet 9 (some .int) ∈ zq_tb := zq_in3 (i := 89) rfl rfl
theorem zw_570 : Cond.methodLink RX11 201 yX11_sheetEntry ∈ zq_tb := zq_in3 (i := 90) rfl rfl
theorem zw_571 : Cond.static yX11_sheetEntry ∈ zq_tb := zq_in3 (i := 91) rfl rfl
theorem zw_572 : Cond.code yX11_sheetEntry cX11_sheetEntry 3 (some .int) ∈ zq_tb := zq_in3 (i := 92) rfl rfl
theorem zw_573 : Cond.methodLink RX11 337 yJ9_min_7cf53 ∈ zq_tb := zq_in3 (i := 93) rfl rfl
theorem zw_574 : Cond.methodLink RX11 340 yJ9_max_7cf53 ∈ zq_tb := zq_in3 (i := 94) rfl rfl
theorem zw_578 : Cond.code yX11_give cX11_give 6 (some .int) ∈ zq_tb := zq_in3 (i := 98) rfl rfl
theorem zw_579 : Cond.methodLink RX11 208 yX11_giveSlice ∈ zq_tb := zq_in3 (i := 99) rfl rfl
theorem zw_581 : Cond.instanceMethod yX11_giveSlice ∈ zq_tb := zq_in3 (i := 101) rfl rfl
theorem zw_582 : Cond.code yX11_giveSlice cX11_giveSlice 5 (some .int) ∈ zq_tb := zq_in3 (i := 102) rfl rfl
theorem zw_583 : Cond.methodLink RX11 389 yX11_isSlice ∈ zq_tb := zq_in3 (i := 103) rfl rfl
theorem zw_585 : Cond.instanceMethod yX11_isSlice ∈ zq_tb := zq_in3 (i := 105) rfl rfl
theorem zw_586 : Cond.code yX11_isSlice cX11_isSlice 3 (some .boolean) ∈ zq_tb := zq_in3 (i := 106) rfl rfl
theorem zw_587 : Cond.methodLink RX11 168 yX0_holderOf ∈ zq_tb := zq_in3 (i := 107) rfl rfl
theorem zw_588 : Cond.instanceMethod yX0_holderOf ∈ zq_tb := zq_in3 (i := 108) rfl rfl
theorem zw_589 : Cond.selects RX0 yX0_holderOf yX0_holderOf ∈ zq_tb := zq_in3 (i := 109) rfl rfl
theorem zw_590 : Cond.code yX0_holderOf cX0_holderOf 2 (some .int) ∈ zq_tb := zq_in3 (i := 110) rfl rfl
theorem zw_591 : Cond.constantLong RX0 22 (15 : Int64) ∈ zq_tb := zq_in3 (i := 111) rfl rfl
theorem zw_592 : Cond.methodLink RX11 392 yX0_put ∈ zq_tb := zq_in3 (i := 112) rfl rfl
theorem zw_593 : Cond.instanceMethod yX0_put ∈ zq_tb := zq_in3 (i := 113) rfl rfl
theorem zw_594 : Cond.selects RX0 yX0_put yX0_put ∈ zq_tb := zq_in3 (i := 114) rfl rfl
theorem zw_595 : Cond.code yX0_put cX0_put 5 none ∈ zq_tb := zq_in3 (i := 115) rfl rfl
theorem zw_596 : Cond.constantLong RX0 24 (-1 : Int64) ∈ zq_tb := zq_in3 (i := 116) rfl rfl
theorem zw_597 : Cond.methodLink RX11 276 yX10_between ∈ zq_tb := zq_in3 (i := 117) rfl rfl
theorem zw_598 : Cond.instanceMethod yX10_between ∈ zq_tb := zq_in3 (i := 118) rfl rfl
theorem zw_599 : Cond.selects RX10 yX10_between yX10_between ∈ zq_tb := zq_in3 (i := 119) rfl rfl
theorem zw_600 : Cond.code yX10_between cX10_between 4 (some .int) ∈ zq_tb := zq_in3 (i := 120) rfl rfl
theorem zw_601 : Cond.methodLink RX11 212 yX11_remembered ∈ zq_tb := zq_in3 (i := 121) rfl rfl
theorem zw_603 : Cond.instanceMethod yX11_remembered ∈ zq_tb := zq_in3 (i := 123) rfl rfl
theorem zw_604 : Cond.code yX11_remembered cX11_remembered 4 (some .int) ∈ zq_tb := zq_in3 (i := 124) rfl rfl
theorem zw_605 : Cond.methodLink RX11 232 yX0_remember ∈ zq_tb := zq_in3 (i := 125) rfl rfl
theorem zw_606 : Cond.instanceMethod yX0_remember ∈ zq_tb := zq_in3 (i := 126) rfl rfl
theorem zw_607 : Cond.selects RX0 yX0_remember yX0_remember ∈ zq_tb := zq_in3 (i := 127) rfl rfl
theorem zw_608 : Cond.code yX0_remember cX0_remember 3 none ∈ zq_tb := zq_in3 (i := 128) rfl rfl
theorem zw_609 : Cond.methodLink RX0 33 arraycopyName ∈ zq_tb := zq_in3 (i := 129) rfl rfl
theorem zw_610 : Cond.static arraycopyName ∈ zq_tb := zq_in3 (i := 130) rfl rfl
theorem zw_611 : Cond.native arraycopyName ∈ zq_tb := zq_in3 (i := 131) rfl rfl
theorem zw_615 : Cond.code yX11_back cX11_back 5 (some .int) ∈ zq_tb := zq_in3 (i := 135) rfl rfl
theorem zw_616 : Cond.methodLink RX11 216 yX11_takeBack ∈ zq_tb := zq_in3 (i := 136) rfl rfl
theorem zw_618 : Cond.instanceMethod yX11_takeBack ∈ zq_tb := zq_in3 (i := 138) rfl rfl
theorem zw_619 : Cond.code yX11_takeBack cX11_takeBack 6 (some .int) ∈ zq_tb := zq_in3 (i := 139) rfl rfl
theorem zw_623 : Cond.code yX11_mouse cX11_mouse 4 (some .int) ∈ zq_tb := zq_in3 (i := 143) rfl rfl
theorem zw_624 : Cond.methodLink RX11 219 yX11_feedMouse ∈ zq_tb := zq_in3 (i := 144) rfl rfl
theorem zw_626 : Cond.instanceMethod yX11_feedMouse ∈ zq_tb := zq_in3 (i := 146) rfl rfl
theorem zw_627 : Cond.code yX11_feedMouse cX11_feedMouse 2 (some .int) ∈ zq_tb := zq_in3 (i := 147) rfl rfl
theorem zw_631 : Cond.code yX11_supper cX11_supper 5 (some .int) ∈ zq_tb := zq_in3 (i := 151) rfl rfl
theorem zw_632 : Cond.methodLink RX11 222 yX11_readActs ∈ zq_tb := zq_in3 (i := 152) rfl rfl
theorem zw_634 : Cond.instanceMethod yX11_readActs ∈ zq_tb := zq_in3 (i := 154) rfl rfl
theorem zw_635 : Cond.code yX11_readActs cX11_readActs 1 (some .boolean) ∈ zq_tb := zq_in3 (i := 155) rfl rfl
theorem zw_636 : Cond.methodLink RX11 396 yX8_start ∈ zq_tb := zq_in3 (i := 156) rfl rfl
theorem zw_637 : Cond.methodLink RX11 397 yX8_isFinished ∈ zq_tb := zq_in3 (i := 157) rfl rfl
theorem zw_638 : Cond.methodLink RX11 400 yX11_readAct ∈ zq_tb := zq_in3 (i := 158) rfl rfl
theorem zw_640 : Cond.instanceMethod yX11_readAct ∈ zq_tb := zq_in3 (i := 160) rfl rfl
theorem zw_641 : Cond.code yX11_readAct cX11_readAct 6 (some .boolean) ∈ zq_tb := zq_in3 (i := 161) rfl rfl
theorem zw_642 : Cond.methodLink RX11 406 yX8_next ∈ zq_tb := zq_in3 (i := 162) rfl rfl
theorem zw_643 : Cond.methodLink RX11 403 yX8_skip ∈ zq_tb := zq_in3 (i := 163) rfl rfl
theorem zw_644 : Cond.methodLink RX11 409 yX8_takeLetter ∈ zq_tb := zq_in3 (i := 164) rfl rfl
theorem zw_645 : Cond.methodLink RX11 412 yX8_takeNumber ∈ zq_tb := zq_in3 (i := 165) rfl rfl
theorem zw_646 : Cond.methodLink RX11 229 yX11_doAct ∈ zq_tb := zq_in3 (i := 166) rfl rfl
theorem zw_648 : Cond.instanceMethod yX11_doAct ∈ zq_tb := zq_in3 (i := 168) rfl rfl
theorem zw_649 : Cond.code yX11_doAct cX11_doAct 3 (some .int) ∈ zq_tb := zq_in3 (i := 169) rfl rfl
theorem zw_650 : Cond.methodLink RX11 236 yX5_clear ∈ zq_tb := zq_in3 (i := 170) rfl rfl
theorem zw_651 : Cond.instanceMethod yX5_clear ∈ zq_tb := zq_in3 (i := 171) rfl rfl
theorem zw_652 : Cond.selects RX5 yX5_clear yX5_clear ∈ zq_tb := zq_in3 (i := 172) rfl rfl
theorem zw_653 : Cond.code yX5_clear cX5_clear 1 none ∈ zq_tb := zq_in3 (i := 173) rfl rfl
theorem zw_654 : Cond.methodLink RX11 237 yX5_add ∈ zq_tb := zq_in3 (i := 174) rfl rfl
theorem zw_655 : Cond.instanceMethod yX5_add ∈ zq_tb := zq_in3 (i := 175) rfl rfl
theorem zw_656 : Cond.selects RX5 yX5_add yX5_add ∈ zq_tb := zq_in3 (i := 176) rfl rfl
theorem zw_657 : Cond.code yX5_add cX5_add 3 none ∈ zq_tb := zq_in3 (i := 177) rfl rfl
theorem zw_658 : Cond.methodLink RX11 179 yX11_cellsWith ∈ zq_tb := zq_in3 (i := 178) rfl rfl
theorem zw_660 : Cond.instanceMethod yX11_cellsWith ∈ zq_tb := zq_in3 (i := 180) rfl rfl
theorem zw_661 : Cond.code yX11_cellsWith cX11_cellsWith 4 (some .int) ∈ zq_tb := zq_in3 (i := 181) rfl rfl
theorem zw_665 : Cond.code yX11_undo cX11_undo 1 (some .int) ∈ zq_tb := zq_in3 (i := 185) rfl rfl
theorem zw_666 : Cond.methodLink RX11 240 yX0_stepBack ∈ zq_tb := zq_in3 (i := 186) rfl rfl
theorem zw_667 : Cond.instanceMethod yX0_stepBack ∈ zq_tb := zq_in3 (i := 187) rfl rfl
theorem zw_668 : Cond.selects RX0 yX0_stepBack yX0_stepBack ∈ zq_tb := zq_in3 (i := 188) rfl rfl
theorem zw_669 : Cond.code yX0_stepBack cX0_stepBack 1 (some .int) ∈ zq_tb := zq_in3 (i := 189) rfl rfl
theorem zw_673 : Cond.code yX11_seen cX11_seen 3 (some .int) ∈ zq_tb := zq_in3 (i := 193) rfl rfl
theorem zw_674 : Cond.methodLink RX11 182 yX11_worthHeld ∈ zq_tb := zq_in3 (i := 194) rfl rfl
theorem zw_676 : Cond.instanceMethod yX11_worthHeld ∈ zq_tb := zq_in3 (i := 196) rfl rfl
theorem zw_677 : Cond.code yX11_worthHeld cX11_worthHeld 5 (some .int) ∈ zq_tb := zq_in3 (i := 197) rfl rfl
theorem zw_681 : Cond.code yX11_envy cX11_envy 5 (some .int) ∈ zq_tb := zq_in3 (i := 201) rfl rfl
theorem zw_685 : Cond.code yX11_wronged cX11_wronged 4 (some .int) ∈ zq_tb := zq_in3 (i := 205) rfl rfl
theorem zw_686 : Cond.methodLink RX11 189 yX11_hasDue ∈ zq_tb := zq_in3 (i := 206) rfl rfl
theorem zw_688 : Cond.instanceMethod yX11_hasDue ∈ zq_tb := zq_in3 (i := 208) rfl rfl
theorem zw_689 : Cond.code yX11_hasDue cX11_hasDue 4 (some .boolean) ∈ zq_tb := zq_in3 (i := 209) rfl rfl
theorem zw_690 : Cond.methodLink RX11 186 yX10_whole ∈ zq_tb := zq_in3 (i := 210) rfl rfl
theorem zw_691 : Cond.instanceMethod yX10_whole ∈ zq_tb := zq_in3 (i := 211) rfl rfl
theorem zw_692 : Cond.selects RX10 yX10_whole yX10_whole ∈ zq_tb := zq_in3 (i := 212) rfl rfl
theorem zw_693 : Cond.code yX10_whole cX10_whole 2 (some .int) ∈ zq_tb := zq_in3 (i := 213) rfl rfl
theorem zw_694 : Cond.methodLink RX10 39 yX10_between ∈ zq_tb := zq_in3 (i := 214) rfl rfl
theorem zw_695 : Cond.methodLink RX11 244 yJ6_bitCount_0f7a4 ∈ zq_tb := zq_in3 (i := 215) rfl rfl
theorem zw_696 : Cond.static yJ6_bitCount_0f7a4 ∈ zq_tb := zq_in3 (i := 216) rfl rfl
theorem zw_697 : Cond.code yJ6_bitCount_0f7a4 cJ6_bitCount_0f7a4 1 (some .int) ∈ zq_tb := zq_in3 (i := 217) rfl rfl
theorem zw_698 : Cond.constant RJ6 265 (1431655765 : Int32) ∈ zq_tb := zq_in3 (i := 218) rfl rfl
theorem zw_699 : Cond.constant RJ6 266 (858993459 : Int32) ∈ zq_tb := zq_in3 (i := 219) rfl rfl
theorem zw_700 : Cond.constant RJ6 267 (252645135 : Int32) ∈ zq_tb := zq_in3 (i := 220) rfl rfl
theorem zw_704 : Cond.code yX11_happiest cX11_happiest 11 (some .int) ∈ zq_tb := zq_in3 (i := 224) rfl rfl
theorem zw_705 : Cond.methodLink RX11 249 yX5_addFraction ∈ zq_tb := zq_in3 (i := 225) rfl rfl
theorem zw_706 : Cond.instanceMethod yX5_addFraction ∈ zq_tb := zq_in3 (i := 226) rfl rfl
theorem zw_707 : Cond.selects RX5 yX5_addFraction yX5_addFraction ∈ zq_tb := zq_in3 (i := 227) rfl rfl
theorem zw_708 : Cond.code yX5_addFraction cX5_addFraction 12 none ∈ zq_tb := zq_in3 (i := 228) rfl rfl
theorem zw_709 : Cond.methodLink RX5 19 yX5_add ∈ zq_tb := zq_in3 (i := 229) rfl rfl
theorem zw_713 : Cond.code yX11_pieces cX11_pieces 7 (some .int) ∈ zq_tb := zq_in3 (i := 233) rfl rfl
theorem zw_717 : Cond.code yX11_trade cX11_trade 8 (some .int) ∈ zq_tb := zq_in3 (i := 237) rfl rfl
theorem zw_718 : Cond.methodLink RX11 253 yX11_jointGain ∈ zq_tb := zq_in3 (i := 238) rfl rfl
theorem zw_720 : Cond.instanceMethod yX11_jointGain ∈ zq_tb := zq_in4 (i := 0) rfl rfl
theorem zw_721 : Cond.code yX11_jointGain cX11_jointGain 7 (some .int) ∈ zq_tb := zq_in4 (i := 1) rfl rfl
theorem zw_725 : Cond.code yX11_slices cX11_slices 2 (some .int) ∈ zq_tb := zq_in4 (i := 5) rfl rfl
theorem zw_726 : Cond.methodLink RX11 257 yX11_areGuests ∈ zq_tb := zq_in4 (i := 6) rfl rfl
theorem zw_728 : Cond.instanceMethod yX11_areGuests ∈ zq_tb := zq_in4 (i := 8) rfl rfl
theorem zw_729 : Cond.code yX11_areGuests cX11_areGuests 2 (some .boolean) ∈ zq_tb := zq_in4 (i := 9) rfl rfl
theorem zw_730 : Cond.methodLink RX11 273 yX11_everyone ∈ zq_tb := zq_in4 (i := 10) rfl rfl
theorem zw_732 : Cond.instanceMethod yX11_everyone ∈ zq_tb := zq_in4 (i := 12) rfl rfl
theorem zw_733 : Cond.code yX11_everyone cX11_everyone 1 (some .int) ∈ zq_tb := zq_in4 (i := 13) rfl rfl
theorem zw_734 : Cond.methodLink RX11 260 yX11_placeGuests ∈ zq_tb := zq_in4 (i := 14) rfl rfl
theorem zw_736 : Cond.instanceMethod yX11_placeGuests ∈ zq_tb := zq_in4 (i := 16) rfl rfl
theorem zw_737 : Cond.code yX11_placeGuests cX11_placeGuests 7 none ∈ zq_tb := zq_in4 (i := 17) rfl rfl
theorem zw_738 : Cond.methodLink RX11 325 yX4_start ∈ zq_tb := zq_in4 (i := 18) rfl rfl
theorem zw_739 : Cond.instanceMethod yX4_start ∈ zq_tb := zq_in4 (i := 19) rfl rfl
theorem zw_740 : Cond.selects RX4 yX4_start yX4_start ∈ zq_tb := zq_in4 (i := 20) rfl rfl
theorem zw_741 : Cond.code yX4_start cX4_start 2 none ∈ zq_tb := zq_in4 (i := 21) rfl rfl
theorem zw_742 : Cond.constantLong RX11 361 (100 : Int64) ∈ zq_tb := zq_in4 (i := 22) rfl rfl
theorem zw_743 : Cond.methodLink RX11 415 yX4_addMember ∈ zq_tb := zq_in4 (i := 23) rfl rfl
theorem zw_744 : Cond.instanceMethod yX4_addMember ∈ zq_tb := zq_in4 (i := 24) rfl rfl
theorem zw_745 : Cond.selects RX4 yX4_addMember yX4_addMember ∈ zq_tb := zq_in4 (i := 25) rfl rfl
theorem zw_746 : Cond.code yX4_addMember cX4_addMember 6 none ∈ zq_tb := zq_in4 (i := 26) rfl rfl
theorem zw_747 : Cond.methodLink RX11 331 yX4_spread ∈ zq_tb := zq_in4 (i := 27) rfl rfl
theorem zw_748 : Cond.instanceMethod yX4_spread ∈ zq_tb := zq_in4 (i := 28) rfl rfl
theorem zw_749 : Cond.selects RX4 yX4_spread yX4_spread ∈ zq_tb := zq_in4 (i := 29) rfl rfl
theorem zw_750 : Cond.code yX4_spread cX4_spread 5 none ∈ zq_tb := zq_in4 (i := 30) rfl rfl
theorem zw_751 : Cond.methodLink RX4 63 yX4_shortest ∈ zq_tb := zq_in4 (i := 31) rfl rfl
theorem zw_753 : Cond.instanceMethod yX4_shortest ∈ zq_tb := zq_in4 (i := 33) rfl rfl
theorem zw_754 : Cond.code yX4_shortest cX4_shortest 5 (some .int) ∈ zq_tb := zq_in4 (i := 34) rfl rfl
theorem zw_755 : Cond.methodLink RX4 76 yX10_between ∈ zq_tb := zq_in4 (i := 35) rfl rfl
theorem zw_756 : Cond.methodLink RX4 67 yX4_reached ∈ zq_tb := zq_in4 (i := 36) rfl rfl
theorem zw_758 : Cond.instanceMethod yX4_reached ∈ zq_tb := zq_in4 (i := 38) rfl rfl
theorem zw_759 : Cond.code yX4_reached cX4_reached 3 (some .int) ∈ zq_tb := zq_in4 (i := 39) rfl rfl
theorem zw_760 : Cond.methodLink RX4 71 yJ9_min_7cf53 ∈ zq_tb := zq_in4 (i := 40) rfl rfl
theorem zw_761 : Cond.methodLink RX11 263 yX4_canServe ∈ zq_tb := zq_in4 (i := 41) rfl rfl
theorem zw_762 : Cond.instanceMethod yX4_canServe ∈ zq_tb := zq_in4 (i := 42) rfl rfl
theorem zw_763 : Cond.selects RX4 yX4_canServe yX4_canServe ∈ zq_tb := zq_in4 (i := 43) rfl rfl
theorem zw_764 : Cond.code yX4_canServe cX4_canServe 2 (some .boolean) ∈ zq_tb := zq_in4 (i := 44) rfl rfl
theorem zw_765 : Cond.methodLink RX11 266 yX4_tellOrder ∈ zq_tb := zq_in4 (i := 45) rfl rfl
theorem zw_766 : Cond.instanceMethod yX4_tellOrder ∈ zq_tb := zq_in4 (i := 46) rfl rfl
theorem zw_767 : Cond.selects RX4 yX4_tellOrder yX4_tellOrder ∈ zq_tb := zq_in4 (i := 47) rfl rfl
theorem zw_768 : Cond.code yX4_tellOrder cX4_tellOrder 8 none ∈ zq_tb := zq_in4 (i := 48) rfl rfl
theorem zw_769 : Cond.methodLink RX4 82 yX4_findOrder ∈ zq_tb := zq_in4 (i := 49) rfl rfl
theorem zw_771 : Cond.instanceMethod yX4_findOrder ∈ zq_tb := zq_in4 (i := 51) rfl rfl
theorem zw_772 : Cond.code yX4_findOrder cX4_findOrder 7 (some .boolean) ∈ zq_tb := zq_in4 (i := 52) rfl rfl
theorem zw_773 : Cond.methodLink RX4 86 yJ6_bitCount_0f7a4 ∈ zq_tb := zq_in4 (i := 53) rfl rfl
theorem zw_774 : Cond.methodLink RX4 91 yX5_add ∈ zq_tb := zq_in4 (i := 54) rfl rfl
theorem zw_775 : Cond.constantLong RX4 97 (-1 : Int64) ∈ zq_tb := zq_in4 (i := 55) rfl rfl
theorem zw_779 : Cond.code yX11_quarrel cX11_quarrel 6 (some .int) ∈ zq_tb := zq_in4 (i := 59) rfl rfl
theorem zw_783 : Cond.code yX11_stretch cX11_stretch 5 (some .int) ∈ zq_tb := zq_in4 (i := 63) rfl rfl
theorem zw_787 : Cond.code yX11_richest cX11_richest 5 (some .int) ∈ zq_tb := zq_in4 (i := 67) rfl rfl
theorem zw_791 : Cond.code yX11_parts cX11_parts 7 (some .int) ∈ zq_tb := zq_in4 (i := 71) rfl rfl
theorem zw_792 : Cond.methodLink RX11 279 yX11_bestOfLeasts ∈ zq_tb := zq_in4 (i := 72) rfl rfl
theorem zw_794 : Cond.instanceMethod yX11_bestOfLeasts ∈ zq_tb := zq_in4 (i := 74) rfl rfl
theorem zw_795 : Cond.code yX11_bestOfLeasts cX11_bestOfLeasts 8 (some .int) ∈ zq_tb := zq_in4 (i := 75) rfl rfl
theorem zw_799 : Cond.code yX11_calm cX11_calm 1 (some .int) ∈ zq_tb := zq_in4 (i := 79) rfl rfl
theorem zw_800 : Cond.methodLink RX11 282 yX7_ways ∈ zq_tb := zq_in4 (i := 80) rfl rfl
theorem zw_801 : Cond.instanceMethod yX7_ways ∈ zq_tb := zq_in4 (i := 81) rfl rfl
theorem zw_802 : Cond.selects RX7 yX7_ways yX7_ways ∈ zq_tb := zq_in4 (i := 82) rfl rfl
theorem zw_803 : Cond.code yX7_ways cX7_ways 5 (some .int) ∈ zq_tb := zq_in4 (i := 83) rfl rfl
theorem zw_804 : Cond.methodLink RX7 24 yJ9_min_7cf53 ∈ zq_tb := zq_in4 (i := 84) rfl rfl
theorem zw_805 : Cond.methodLink RX7 43 yX7_part ∈ zq_tb := zq_in4 (i := 85) rfl rfl
theorem zw_807 : Cond.instanceMethod yX7_part ∈ zq_tb := zq_in4 (i := 87) rfl rfl
theorem zw_808 : Cond.code yX7_part cX7_part 7 none ∈ zq_tb := zq_in4 (i := 88) rfl rfl
theorem zw_809 : Cond.methodLink RX7 53 yX7_othersAreCalm ∈ zq_tb := zq_in4 (i := 89) rfl rfl
theorem zw_811 : Cond.instanceMethod yX7_othersAreCalm ∈ zq_tb := zq_in4 (i := 91) rfl rfl
theorem zw_812 : Cond.code yX7_othersAreCalm cX7_othersAreCalm 4 (some .boolean) ∈ zq_tb := zq_in4 (i := 92) rfl rfl
theorem zw_813 : Cond.methodLink RX7 71 yX10_whole ∈ zq_tb := zq_in4 (i := 93) rfl rfl
theorem zw_814 : Cond.methodLink RX7 57 yX7_note ∈ zq_tb := zq_in4 (i := 94) rfl rfl
theorem zw_816 : Cond.instanceMethod yX7_note ∈ zq_tb := zq_in4 (i := 96) rfl rfl
theorem zw_817 : Cond.code yX7_note cX7_note 1 none ∈ zq_tb := zq_in4 (i := 97) rfl rfl
theorem zw_818 : Cond.methodLink RX7 75 yX7_isLess ∈ zq_tb := zq_in4 (i := 98) rfl rfl
theorem zw_820 : Cond.instanceMethod yX7_isLess ∈ zq_tb := zq_in4 (i := 100) rfl rfl
theorem zw_821 : Cond.code yX7_isLess cX7_isLess 2 (some .boolean) ∈ zq_tb := zq_in4 (i := 101) rfl rfl
theorem zw_822 : Cond.methodLink RX7 79 arraycopyName ∈ zq_tb := zq_in4 (i := 102) rfl rfl
theorem zw_823 : Cond.methodLink RX7 60 yX7_isCalmWith ∈ zq_tb := zq_in4 (i := 103) rfl rfl
theorem zw_825 : Cond.instanceMethod yX7_isCalmWith ∈ zq_tb := zq_in4 (i := 105) rfl rfl
theorem zw_826 : Cond.code yX7_isCalmWith cX7_isCalmWith 5 (some .boolean) ∈ zq_tb := zq_in4 (i := 106) rfl rfl
theorem zw_827 : Cond.methodLink RX7 64 yX7_prefers ∈ zq_tb := zq_in4 (i := 107) rfl rfl
theorem zw_829 : Cond.instanceMethod yX7_prefers ∈ zq_tb := zq_in4 (i := 109) rfl rfl
theorem zw_830 : Cond.code yX7_prefers cX7_prefers 4 (some .boolean) ∈ zq_tb := zq_in4 (i := 110) rfl rfl
theorem zw_831 : Cond.methodLink RX7 67 yX10_between ∈ zq_tb := zq_in4 (i := 111) rfl rfl
theorem zw_832 : Cond.methodLink RX7 47 yX5_add ∈ zq_tb := zq_in4 (i := 112) rfl rfl
theorem zw_836 : Cond.code yX11_cuts cX11_cuts 10 (some .int) ∈ zq_tb := zq_in4 (i := 116) rfl rfl
theorem zw_837 : Cond.methodLink RX11 286 yJ9_abs_0f7a4 ∈ zq_tb := zq_in4 (i := 117) rfl rfl
theorem zw_838 : Cond.static yJ9_abs_0f7a4 ∈ zq_tb := zq_in4 (i := 118) rfl rfl
theorem zw_839 : Cond.code yJ9_abs_0f7a4 cJ9_abs_0f7a4 1 (some .int) ∈ zq_tb := zq_in4 (i := 119) rfl rfl
theorem zw_843 : Cond.code yX11_byturns cX11_byturns 4 (some .int) ∈ zq_tb := zq_in4 (i := 123) rfl rfl
theorem zw_844 : Cond.methodLink RX11 291 yX9_read ∈ zq_tb := zq_in4 (i := 124) rfl rfl
theorem zw_845 : Cond.instanceMethod yX9_read ∈ zq_tb := zq_in4 (i := 125) rfl rfl
theorem zw_846 : Cond.selects RX9 yX9_read yX9_read ∈ zq_tb := zq_in4 (i := 126) rfl rfl
theorem zw_847 : Cond.code yX9_read cX9_read 4 (some .boolean) ∈ zq_tb := zq_in4 (i := 127) rfl rfl
theorem zw_848 : Cond.methodLink RX9 21 yX8_start ∈ zq_tb := zq_in4 (i := 128) rfl rfl
theorem zw_849 : Cond.methodLink RX9 31 yX8_takeLetter ∈ zq_tb := zq_in4 (i := 129) rfl rfl
theorem zw_850 : Cond.methodLink RX9 35 yX8_isFinished ∈ zq_tb := zq_in4 (i := 130) rfl rfl
theorem zw_851 : Cond.methodLink RX11 294 yX9_startTaking ∈ zq_tb := zq_in4 (i := 131) rfl rfl
theorem zw_852 : Cond.instanceMethod yX9_startTaking ∈ zq_tb := zq_in4 (i := 132) rfl rfl
theorem zw_853 : Cond.selects RX9 yX9_startTaking yX9_startTaking ∈ zq_tb := zq_in4 (i := 133) rfl rfl
theorem zw_854 : Cond.code yX9_startTaking cX9_startTaking 2 none ∈ zq_tb := zq_in4 (i := 134) rfl rfl
theorem zw_855 : Cond.methodLink RX9 44 arraycopyName ∈ zq_tb := zq_in4 (i := 135) rfl rfl
theorem zw_856 : Cond.methodLink RX9 50 yJ7_fill_53178 ∈ zq_tb := zq_in4 (i := 136) rfl rfl
theorem zw_857 : Cond.methodLink RX11 298 yX9_takeAll ∈ zq_tb := zq_in4 (i := 137) rfl rfl
theorem zw_858 : Cond.instanceMethod yX9_takeAll ∈ zq_tb := zq_in4 (i := 138) rfl rfl
theorem zw_859 : Cond.selects RX9 yX9_takeAll yX9_takeAll ∈ zq_tb := zq_in4 (i := 139) rfl rfl
theorem zw_860 : Cond.code yX9_takeAll cX9_takeAll 7 (some .int) ∈ zq_tb := zq_in4 (i := 140) rfl rfl
theorem zw_861 : Cond.methodLink RX9 59 yX9_favourite ∈ zq_tb := zq_in4 (i := 141) rfl rfl
theorem zw_863 : Cond.instanceMethod yX9_favourite ∈ zq_tb := zq_in4 (i := 143) rfl rfl
theorem zw_864 : Cond.code yX9_favourite cX9_favourite 6 (some .int) ∈ zq_tb := zq_in4 (i := 144) rfl rfl
theorem zw_865 : Cond.methodLink RX9 63 yX10_of ∈ zq_tb := zq_in4 (i := 145) rfl rfl
theorem zw_869 : Cond.code yX11_lies cX11_lies 7 (some .int) ∈ zq_tb := zq_in4 (i := 149) rfl rfl
theorem zw_870 : Cond.methodLink RX11 305 yX11_hasByLie ∈ zq_tb := zq_in4 (i := 150) rfl rfl
theorem zw_872 : Cond.instanceMethod yX11_hasByLie ∈ zq_tb := zq_in4 (i := 152) rfl rfl
theorem zw_873 : Cond.code yX11_hasByLie cX11_hasByLie 6 (some .int) ∈ zq_tb := zq_in4 (i := 153) rfl rfl
theorem zw_874 : Cond.methodLink RX11 422 yX6_worthOf ∈ zq_tb := zq_in4 (i := 154) rfl rfl
theorem zw_878 : Cond.code yX11_chose cX11_chose 3 (some .int) ∈ zq_tb := zq_in4 (i := 158) rfl rfl
theorem zw_879 : Cond.methodLink RX11 308 yX1_tell ∈ zq_tb := zq_in4 (i := 159) rfl rfl
theorem zw_880 : Cond.instanceMethod yX1_tell ∈ zq_tb := zq_in4 (i := 160) rfl rfl
theorem zw_881 : Cond.selects RX1 yX1_tell yX1_tell ∈ zq_tb := zq_in4 (i := 161) rfl rfl
theorem zw_882 : Cond.code yX1_tell cX1_tell 3 (some .int) ∈ zq_tb := zq_in4 (i := 162) rfl rfl
theorem zw_886 : Cond.code yX11_forget cX11_forget 2 (some .int) ∈ zq_tb := zq_in4 (i := 166) rfl rfl
theorem zw_890 : Cond.code yX11_tastes cX11_tastes 4 (some .int) ∈ zq_tb := zq_in4 (i := 170) rfl rfl
theorem zw_891 : Cond.methodLink RX11 311 yX1_countFitting ∈ zq_tb := zq_in4 (i := 171) rfl rfl
theorem zw_892 : Cond.instanceMethod yX1_countFitting ∈ zq_tb := zq_in4 (i := 172) rfl rfl
theorem zw_893 : Cond.selects RX1 yX1_countFitting yX1_countFitting ∈ zq_tb := zq_in4 (i := 173) rfl rfl
theorem zw_894 : Cond.code yX1_countFitting cX1_countFitting 8 (some .int) ∈ zq_tb := zq_in4 (i := 174) rfl rfl
theorem zw_895 : Cond.methodLink RX1 34 yX1_fits ∈ zq_tb := zq_in4 (i := 175) rfl rfl
theorem zw_897 : Cond.instanceMethod yX1_fits ∈ zq_tb := zq_in4 (i := 177) rfl rfl
theorem zw_898 : Cond.code yX1_fits cX1_fits 7 (some .boolean) ∈ zq_tb := zq_in4 (i := 178) rfl rfl
theorem zw_899 : Cond.methodLink RX1 55 yX1_ask ∈ zq_tb := zq_in4 (i := 179) rfl rfl
theorem zw_901 : Cond.instanceMethod yX1_ask ∈ zq_tb := zq_in4 (i := 181) rfl rfl
theorem zw_902 : Cond.code yX1_ask cX1_ask 5 (some .int) ∈ zq_tb := zq_in4 (i := 182) rfl rfl
theorem zw_903 : Cond.methodLink RX1 72 yX6_worthOf ∈ zq_tb := zq_in4 (i := 183) rfl rfl
theorem zw_904 : Cond.methodLink RX1 38 arraycopyName ∈ zq_tb := zq_in4 (i := 184) rfl rfl
theorem zw_908 : Cond.code yX11_offer cX11_offer 7 (some .int) ∈ zq_tb := zq_in4 (i := 188) rfl rfl
theorem zw_909 : Cond.methodLink RX11 318 yX1_countPairs ∈ zq_tb := zq_in4 (i := 189) rfl rfl
theorem zw_910 : Cond.instanceMethod yX1_countPairs ∈ zq_tb := zq_in4 (i := 190) rfl rfl
theorem zw_911 : Cond.selects RX1 yX1_countPairs yX1_countPairs ∈ zq_tb := zq_in4 (i := 191) rfl rfl
theorem zw_912 : Cond.code yX1_countPairs cX1_countPairs 6 none ∈ zq_tb := zq_in4 (i := 192) rfl rfl
theorem zw_913 : Cond.methodLink RX1 44 yJ7_fill_53178 ∈ zq_tb := zq_in4 (i := 193) rfl rfl
theorem zw_914 : Cond.methodLink RX1 59 yX1_countThisTime ∈ zq_tb := zq_in4 (i := 194) rfl rfl
theorem zw_916 : Cond.instanceMethod yX1_countThisTime ∈ zq_tb := zq_in4 (i := 196) rfl rfl
theorem zw_917 : Cond.code yX1_countThisTime cX1_countThisTime 4 none ∈ zq_tb := zq_in4 (i := 197) rfl rfl
theorem zw_918 : Cond.methodLink RX11 322 yX1_leftAtMost ∈ zq_tb := zq_in4 (i := 198) rfl rfl
theorem zw_919 : Cond.instanceMethod yX1_leftAtMost ∈ zq_tb := zq_in4 (i := 199) rfl rfl
theorem zw_920 : Cond.selects RX1 yX1_leftAtMost yX1_leftAtMost ∈ zq_tb := zq_in4 (i := 200) rfl rfl
theorem zw_921 : Cond.code yX1_leftAtMost cX1_leftAtMost 3 (some .int) ∈ zq_tb := zq_in4 (i := 201) rfl rfl
theorem zw_922 : Cond.methodLink RX1 63 yJ9_max_7cf53 ∈ zq_tb := zq_in4 (i := 202) rfl rfl
theorem zw_926 : Cond.code yX11_claims cX11_claims 6 (some .int) ∈ zq_tb := zq_in4 (i := 206) rfl rfl
theorem zw_927 : Cond.methodLink RX11 328 yX4_readClaims ∈ zq_tb := zq_in4 (i := 207) rfl rfl
theorem zw_928 : Cond.instanceMethod yX4_readClaims ∈ zq_tb := zq_in4 (i := 208) rfl rfl
theorem zw_929 : Cond.selects RX4 yX4_readClaims yX4_readClaims ∈ zq_tb := zq_in4 (i := 209) rfl rfl
theorem zw_930 : Cond.code yX4_readClaims cX4_readClaims 6 (some .boolean) ∈ zq_tb := zq_in4 (i := 210) rfl rfl
theorem zw_931 : Cond.methodLink RX4 38 yX8_start ∈ zq_tb := zq_in4 (i := 211) rfl rfl
theorem zw_932 : Cond.methodLink RX4 44 yX8_takeLetter ∈ zq_tb := zq_in4 (i := 212) rfl rfl
theorem zw_933 : Cond.methodLink RX4 48 yX8_takeNumber ∈ zq_tb := zq_in4 (i := 213) rfl rfl
theorem zw_934 : Cond.methodLink RX4 51 yX4_addMember ∈ zq_tb := zq_in4 (i := 214) rfl rfl
theorem zw_935 : Cond.methodLink RX4 55 yX8_skip ∈ zq_tb := zq_in4 (i := 215) rfl rfl
theorem zw_936 : Cond.methodLink RX4 59 yX8_isFinished ∈ zq_tb := zq_in4 (i := 216) rfl rfl
theorem zw_940 : Cond.code yX11_settle cX11_settle 8 (some .int) ∈ zq_tb := zq_in4 (i := 220) rfl rfl
theorem zw_944 : Cond.code yX11_nothing cX11_nothing 5 (some .int) ∈ zq_tb := zq_in4 (i := 224) rfl rfl
theorem zw_945 : Cond.methodLink RX11 343 yX2_allCrumbs ∈ zq_tb := zq_in4 (i := 225) rfl rfl
theorem zw_946 : Cond.instanceMethod yX2_allCrumbs ∈ zq_tb := zq_in4 (i := 226) rfl rfl
theorem zw_947 : Cond.selects RX2 yX2_allCrumbs yX2_allCrumbs ∈ zq_tb := zq_in4 (i := 227) rfl rfl
theorem zw_948 : Cond.code yX2_allCrumbs cX2_allCrumbs 3 (some .int) ∈ zq_tb := zq_in4 (i := 228) rfl rfl
theorem zw_949 : Cond.methodLink RX11 346 yX3_canPart ∈ zq_tb := zq_in4 (i := 229) rfl rfl
theorem zw_950 : Cond.instanceMethod yX3_canPart ∈ zq_tb := zq_in4 (i := 230) rfl rfl
theorem zw_951 : Cond.selects RX3 yX3_canPart yX3_canPart ∈ zq_tb := zq_in4 (i := 231) rfl rfl
theorem zw_952 : Cond.code yX3_canPart cX3_canPart 4 (some .boolean) ∈ zq_tb := zq_in4 (i := 232) rfl rfl
theorem zw_956 : Cond.code yX11_ate cX11_ate 7 (some .int) ∈ zq_tb := zq_in4 (i := 236) rfl rfl
theorem zw_957 : Cond.methodLink RX11 350 yX3_desertsOf ∈ zq_tb := zq_in4 (i := 237) rfl rfl
theorem zw_961 : Cond.code yX11_enough cX11_enough 3 (some .int) ∈ zq_tb := zq_in5 (i := 1) rfl rfl
theorem zw_962 : Cond.methodLink RX11 353 yX3_chanceOf ∈ zq_tb := zq_in5 (i := 2) rfl rfl
theorem zw_963 : Cond.instanceMethod yX3_chanceOf ∈ zq_tb := zq_in5 (i := 3) rfl rfl
theorem zw_964 : Cond.selects RX3 yX3_chanceOf yX3_chanceOf ∈ zq_tb := zq_in5 (i := 4) rfl rfl
theorem zw_965 : Cond.code yX3_chanceOf cX3_chanceOf 9 (some .long) ∈ zq_tb := zq_in5 (i := 5) rfl rfl
theorem zw_966 : Cond.methodLink RX11 357 yX3_allChances ∈ zq_tb := zq_in5 (i := 6) rfl rfl
theorem zw_967 : Cond.instanceMethod yX3_allChances ∈ zq_tb := zq_in5 (i := 7) rfl rfl
theorem zw_968 : Cond.selects RX3 yX3_allChances yX3_allChances ∈ zq_tb := zq_in5 (i := 8) rfl rfl
theorem zw_969 : Cond.code yX3_allChances cX3_allChances 4 (some .long) ∈ zq_tb := zq_in5 (i := 9) rfl rfl
theorem zw_970 : Cond.constantLong RX3 69 (10 : Int64) ∈ zq_tb := zq_in5 (i := 10) rfl rfl
theorem zw_974 : Cond.code yX11_wide cX11_wide 7 (some .int) ∈ zq_tb := zq_in5 (i := 14) rfl rfl
theorem zw_978 : Cond.code yX11_suppers cX11_suppers 6 (some .int) ∈ zq_tb := zq_in5 (i := 18) rfl rfl
theorem zw_979 : Cond.constant RX11 364 (1103515245 : Int32) ∈ zq_tb := zq_in5 (i := 19) rfl rfl
theorem zw_983 : Cond.code yX11_keep cX11_keep 2 (some .boolean) ∈ zq_tb := zq_in5 (i := 23) rfl rfl
theorem zw_984 : Cond.methodLink RX11 368 yX0_store ∈ zq_tb := zq_in5 (i := 24) rfl rfl
theorem zw_985 : Cond.instanceMethod yX0_store ∈ zq_tb := zq_in5 (i := 25) rfl rfl
theorem zw_986 : Cond.selects RX0 yX0_store yX0_store ∈ zq_tb := zq_in5 (i := 26) rfl rfl
theorem zw_987 : Cond.code yX0_store cX0_store 2 (some .boolean) ∈ zq_tb := zq_in5 (i := 27) rfl rfl
theorem zw_991 : Cond.code yX11_again cX11_again 2 (some .boolean) ∈ zq_tb := zq_in5 (i := 31) rfl rfl
theorem zw_992 : Cond.methodLink RX11 371 yX0_restore ∈ zq_tb := zq_in5 (i := 32) rfl rfl
theorem zw_993 : Cond.instanceMethod yX0_restore ∈ zq_tb := zq_in5 (i := 33) rfl rfl
theorem zw_994 : Cond.selects RX0 yX0_restore yX0_restore ∈ zq_tb := zq_in5 (i := 34) rfl rfl
theorem zw_995 : Cond.code yX0_restore cX0_restore 2 (some .boolean) ∈ zq_tb := zq_in5 (i := 35) rfl rfl
theorem zw_999 : Cond.code yX11_count cX11_count 2 (some .int) ∈ zq_tb := zq_in5 (i := 39) rfl rfl
theorem zw_1007 : Cond.code yX11_cell cX11_cell 3 (some .int) ∈ zq_tb := zq_in5 (i := 47) rfl rfl
theorem zw_1080 : Cond.code yX11_guest cX11_guest 3 (some .int) ∈ zq_tb := zq_in5 (i := 120) rfl rfl
theorem zw_1088 : Cond.code yX11_row cX11_row 2 (some .long) ∈ zq_tb := zq_in5 (i := 128) rfl rfl
theorem zw_1096 : Cond.fieldLink RX12 147 RX12 "thrown" "I" ∈ zq_tb := zq_in5 (i := 136) rfl rfl
theorem zw_1097 : Cond.fieldLink RX12 155 RX12 "rows" "I" ∈ zq_tb := zq_in5 (i := 137) rfl rfl
theorem zw_1098 : Cond.fieldLink RX12 7 RX12 "row" "[J" ∈ zq_tb := zq_in5 (i := 138) rfl rfl
theorem zw_1099 : Cond.fieldLink RX12 158 RX12 "cells" "I" ∈ zq_tb := zq_in5 (i := 139) rfl rfl
theorem zw_1100 : Cond.fieldLink RX12 165 RX12 "guests" "I" ∈ zq_tb := zq_in5 (i := 140) rfl rfl
theorem zw_1101 : Cond.fieldLink RX12 242 RX12 "loaves" "I" ∈ zq_tb := zq_in5 (i := 141) rfl rfl
theorem zw_1102 : Cond.fieldLink RX12 13 RX12 "crumbs" "[I" ∈ zq_tb := zq_in5 (i := 142) rfl rfl
theorem zw_1103 : Cond.fieldLink RX12 17 RX12 "raisins" "[I" ∈ zq_tb := zq_in5 (i := 143) rfl rfl
theorem zw_1104 : Cond.fieldLink RX12 20 RX12 "crust" "[Z" ∈ zq_tb := zq_in5 (i := 144) rfl rfl
theorem zw_1105 : Cond.fieldLink RX12 24 RX12 "tastes" "[I" ∈ zq_tb := zq_in5 (i := 145) rfl rfl
theorem zw_1106 : Cond.fieldLink RX12 27 RX12 "deserts" "[I" ∈ zq_tb := zq_in5 (i := 146) rfl rfl
theorem zw_1107 : Cond.fieldLink RX12 30 RX12 "now" "[I" ∈ zq_tb := zq_in5 (i := 147) rfl rfl
theorem zw_1108 : Cond.fieldLink RX12 33 RX12 "tape" "[I" ∈ zq_tb := zq_in5 (i := 148) rfl rfl
theorem zw_1109 : Cond.fieldLink RX12 172 RX12 "taped" "I" ∈ zq_tb := zq_in5 (i := 149) rfl rfl
theorem zw_1110 : Cond.fieldLink RX12 175 RX12 "at" "I" ∈ zq_tb := zq_in5 (i := 150) rfl rfl
theorem zw_1111 : Cond.fieldLink RX12 187 RX12 "to" "I" ∈ zq_tb := zq_in5 (i := 151) rfl rfl
theorem zw_1112 : Cond.fieldLink RX12 178 RX12 "nest" "I" ∈ zq_tb := zq_in5 (i := 152) rfl rfl
theorem zw_1113 : Cond.fieldLink RX12 36 RX12 "readCrumbs" "[I" ∈ zq_tb := zq_in5 (i := 153) rfl rfl
theorem zw_1114 : Cond.fieldLink RX12 39 RX12 "readRaisins" "[I" ∈ zq_tb := zq_in5 (i := 154) rfl rfl
theorem zw_1115 : Cond.fieldLink RX12 42 RX12 "readCrust" "[Z" ∈ zq_tb := zq_in5 (i := 155) rfl rfl
theorem zw_1116 : Cond.fieldLink RX12 45 RX12 "readTastes" "[I" ∈ zq_tb := zq_in5 (i := 156) rfl rfl
theorem zw_1117 : Cond.fieldLink RX12 245 RX12 "readGuests" "I" ∈ zq_tb := zq_in5 (i := 157) rfl rfl
theorem zw_1118 : Cond.fieldLink RX12 48 RX12 "readDeserts" "[I" ∈ zq_tb := zq_in5 (i := 158) rfl rfl
theorem zw_1119 : Cond.fieldLink RX12 51 RX12 "code" "[I" ∈ zq_tb := zq_in5 (i := 159) rfl rfl
theorem zw_1120 : Cond.fieldLink RX12 54 RX12 "readCode" "[I" ∈ zq_tb := zq_in5 (i := 160) rfl rfl
theorem zw_1121 : Cond.fieldLink RX12 289 RX12 "codeLong" "I" ∈ zq_tb := zq_in5 (i := 161) rfl rfl
theorem zw_1122 : Cond.fieldLink RX12 268 RX12 "readLong" "I" ∈ zq_tb := zq_in5 (i := 162) rfl rfl
theorem zw_1123 : Cond.fieldLink RX12 57 RX12 "stack" "[I" ∈ zq_tb := zq_in5 (i := 163) rfl rfl
theorem zw_1124 : Cond.fieldLink RX12 60 RX12 "asked" "[I" ∈ zq_tb := zq_in5 (i := 164) rfl rfl
theorem zw_1125 : Cond.fieldLink RX12 63 RX12 "table" "[I" ∈ zq_tb := zq_in5 (i := 165) rfl rfl
theorem zw_1126 : Cond.fieldLink RX12 66 RX12 "whole" "[I" ∈ zq_tb := zq_in5 (i := 166) rfl rfl
theorem zw_1127 : Cond.fieldLink RX12 236 RX12 "undos" "I" ∈ zq_tb := zq_in5 (i := 167) rfl rfl
theorem zw_1128 : Cond.fieldLink RX12 69 RX12 "undone" "[I" ∈ zq_tb := zq_in5 (i := 168) rfl rfl
theorem zw_1129 : Cond.fieldLink RX12 72 RX12 "actSign" "[I" ∈ zq_tb := zq_in5 (i := 169) rfl rfl
theorem zw_1130 : Cond.fieldLink RX12 75 RX12 "actOne" "[I" ∈ zq_tb := zq_in5 (i := 170) rfl rfl
theorem zw_1131 : Cond.fieldLink RX12 78 RX12 "actFrom" "[I" ∈ zq_tb := zq_in5 (i := 171) rfl rfl
theorem zw_1132 : Cond.fieldLink RX12 81 RX12 "actLast" "[I" ∈ zq_tb := zq_in5 (i := 172) rfl rfl
theorem zw_1133 : Cond.fieldLink RX12 357 RX12 "acts" "I" ∈ zq_tb := zq_in5 (i := 173) rfl rfl
theorem zw_1134 : Cond.fieldLink RX12 84 RX12 "turn" "[I" ∈ zq_tb := zq_in5 (i := 174) rfl rfl
theorem zw_1135 : Cond.fieldLink RX12 87 RX12 "bestTurn" "[I" ∈ zq_tb := zq_in5 (i := 175) rfl rfl
theorem zw_1136 : Cond.fieldLink RX12 377 RX12 "bestCells" "I" ∈ zq_tb := zq_in5 (i := 176) rfl rfl
theorem zw_1137 : Cond.fieldLink RX12 90 RX12 "partEnd" "[I" ∈ zq_tb := zq_in5 (i := 177) rfl rfl
theorem zw_1138 : Cond.fieldLink RX12 93 RX12 "bestEnd" "[I" ∈ zq_tb := zq_in5 (i := 178) rfl rfl
theorem zw_1139 : Cond.fieldLink RX12 401 RX12 "bestLeast" "I" ∈ zq_tb := zq_in5 (i := 179) rfl rfl
theorem zw_1140 : Cond.fieldLink RX12 96 RX12 "whose" "[I" ∈ zq_tb := zq_in5 (i := 180) rfl rfl
theorem zw_1141 : Cond.fieldLink RX12 99 RX12 "firstWhose" "[I" ∈ zq_tb := zq_in5 (i := 181) rfl rfl
theorem zw_1142 : Cond.fieldLink RX12 102 RX12 "sliceWorth" "[I" ∈ zq_tb := zq_in5 (i := 182) rfl rfl
theorem zw_1143 : Cond.fieldLink RX12 414 RX12 "calmMany" "I" ∈ zq_tb := zq_in5 (i := 183) rfl rfl
theorem zw_1144 : Cond.fieldLink RX12 105 RX12 "turns" "[I" ∈ zq_tb := zq_in5 (i := 184) rfl rfl
theorem zw_1145 : Cond.fieldLink RX12 428 RX12 "turnMany" "I" ∈ zq_tb := zq_in5 (i := 185) rfl rfl
theorem zw_1146 : Cond.fieldLink RX12 431 RX12 "taken" "I" ∈ zq_tb := zq_in5 (i := 186) rfl rfl
theorem zw_1147 : Cond.fieldLink RX12 108 RX12 "picks" "[I" ∈ zq_tb := zq_in5 (i := 187) rfl rfl
theorem zw_1148 : Cond.fieldLink RX12 111 RX12 "has" "[I" ∈ zq_tb := zq_in5 (i := 188) rfl rfl
theorem zw_1149 : Cond.fieldLink RX12 239 RX12 "choices" "I" ∈ zq_tb := zq_in5 (i := 189) rfl rfl
theorem zw_1150 : Cond.fieldLink RX12 114 RX12 "choseOne" "[I" ∈ zq_tb := zq_in5 (i := 190) rfl rfl
theorem zw_1151 : Cond.fieldLink RX12 117 RX12 "choseOther" "[I" ∈ zq_tb := zq_in5 (i := 191) rfl rfl
theorem zw_1152 : Cond.fieldLink RX12 120 RX12 "thought" "[I" ∈ zq_tb := zq_in5 (i := 192) rfl rfl
theorem zw_1153 : Cond.fieldLink RX12 123 RX12 "byFirst" "[I" ∈ zq_tb := zq_in5 (i := 193) rfl rfl
theorem zw_1154 : Cond.fieldLink RX12 126 RX12 "bySecond" "[I" ∈ zq_tb := zq_in5 (i := 194) rfl rfl
theorem zw_1155 : Cond.fieldLink RX12 129 RX12 "claimWho" "[I" ∈ zq_tb := zq_in5 (i := 195) rfl rfl
theorem zw_1156 : Cond.fieldLink RX12 132 RX12 "claimed" "[I" ∈ zq_tb := zq_in5 (i := 196) rfl rfl
theorem zw_1157 : Cond.fieldLink RX12 460 RX12 "up" "J" ∈ zq_tb := zq_in5 (i := 197) rfl rfl
theorem zw_1158 : Cond.fieldLink RX12 464 RX12 "down" "J" ∈ zq_tb := zq_in5 (i := 198) rfl rfl
theorem zw_1159 : Cond.fieldLink RX12 135 RX12 "hadAll" "[I" ∈ zq_tb := zq_in5 (i := 199) rfl rfl
theorem zw_1160 : Cond.fieldLink RX12 138 RX12 "isKept" "[Z" ∈ zq_tb := zq_in5 (i := 200) rfl rfl
theorem zw_1161 : Cond.fieldLink RX12 141 RX12 "keptLoaves" "[I" ∈ zq_tb := zq_in5 (i := 201) rfl rfl
theorem zw_1162 : Cond.fieldLink RX12 144 RX12 "kept" "[I" ∈ zq_tb := zq_in5 (i := 202) rfl rfl
theorem zw_1302 : Cond.code yX12_thrown cX12_thrown 1 (some .int) ∈ zq_tb := zq_in6 (i := 102) rfl rfl
theorem zw_1306 : Cond.code yX12_sign cX12_sign 3 (some .int) ∈ zq_tb := zq_in6 (i := 106) rfl rfl
theorem zw_1310 : Cond.code yX12_end cX12_end 2 (some .boolean) ∈ zq_tb := zq_in6 (i := 110) rfl rfl
theorem zw_1311 : Cond.methodLink RX12 161 yX12_in ∈ zq_tb := zq_in6 (i := 111) rfl rfl
theorem zw_1312 : Cond.static yX12_in ∈ zq_tb := zq_in6 (i := 112) rfl rfl
theorem zw_1313 : Cond.code yX12_in cX12_in 6 (some .boolean) ∈ zq_tb := zq_in6 (i := 113) rfl rfl
theorem zw_1317 : Cond.code yX12_loaf cX12_loaf 5 (some .int) ∈ zq_tb := zq_in6 (i := 117) rfl rfl
theorem zw_1318 : Cond.methodLink RX12 218 yX12_begins ∈ zq_tb := zq_in6 (i := 118) rfl rfl
theorem zw_1320 : Cond.instanceMethod yX12_begins ∈ zq_tb := zq_in6 (i := 120) rfl rfl
theorem zw_1321 : Cond.code yX12_begins cX12_begins 3 (some .int) ∈ zq_tb := zq_in6 (i := 121) rfl rfl
theorem zw_1322 : Cond.methodLink RX12 181 yJ9_min_7cf53 ∈ zq_tb := zq_in6 (i := 122) rfl rfl
theorem zw_1324 : Cond.methodLink RX12 208 yX12_among ∈ zq_tb := zq_in6 (i := 124) rfl rfl
theorem zw_1326 : Cond.instanceMethod yX12_among ∈ zq_tb := zq_in6 (i := 126) rfl rfl
theorem zw_1327 : Cond.code yX12_among cX12_among 3 (some .int) ∈ zq_tb := zq_in6 (i := 127) rfl rfl
theorem zw_1328 : Cond.methodLink RX12 198 yJ0_length_8abf5 ∈ zq_tb := zq_in6 (i := 128) rfl rfl
theorem zw_1329 : Cond.instanceMethod yJ0_length_8abf5 ∈ zq_tb := zq_in6 (i := 129) rfl rfl
theorem zw_1330 : Cond.selects RJ0 yJ0_length_8abf5 yJ0_length_8abf5 ∈ zq_tb := zq_in6 (i := 130) rfl rfl
theorem zw_1331 : Cond.code yJ0_length_8abf5 cJ0_length_8abf5 1 (some .int) ∈ zq_tb := zq_in6 (i := 131) rfl rfl
theorem zw_1332 : Cond.methodLink RJ0 335 yJ0_coder_7d493 ∈ zq_tb := zq_in6 (i := 132) rfl rfl
theorem zw_1333 : Cond.instanceMethod yJ0_coder_7d493 ∈ zq_tb := zq_in6 (i := 133) rfl rfl
theorem zw_1334 : Cond.selects RJ0 yJ0_coder_7d493 yJ0_coder_7d493 ∈ zq_tb := zq_in6 (i := 134) rfl rfl
theorem zw_1335 : Cond.code yJ0_coder_7d493 cJ0_coder_7d493 1 (some .byte) ∈ zq_tb := zq_in6 (i := 135) rfl rfl
theorem zw_1336 : Cond.fieldLink RJ0 38 RJ0 "COMPACT_STRINGS" "Z" ∈ zq_tb := zq_in6 (i := 136) rfl rfl
theorem zw_1338 : Cond.methodLink RX12 204 yJ0_charAt_5068e ∈ zq_tb := zq_in6 (i := 138) rfl rfl
theorem zw_1339 : Cond.instanceMethod yJ0_charAt_5068e ∈ zq_tb := zq_in6 (i := 139) rfl rfl
theorem zw_1340 : Cond.selects RJ0 yJ0_charAt_5068e yJ0_charAt_5068e ∈ zq_tb := zq_in6 (i := 140) rfl rfl
theorem zw_1341 : Cond.code yJ0_charAt_5068e cJ0_charAt_5068e 2 (some .char) ∈ zq_tb := zq_in6 (i := 141) rfl rfl
theorem zw_1342 : Cond.methodLink RJ0 492 yJ0_isLatin1_aae02 ∈ zq_tb := zq_in6 (i := 142) rfl rfl
theorem zw_1343 : Cond.instanceMethod yJ0_isLatin1_aae02 ∈ zq_tb := zq_in6 (i := 143) rfl rfl
theorem zw_1344 : Cond.selects RJ0 yJ0_isLatin1_aae02 yJ0_isLatin1_aae02 ∈ zq_tb := zq_in6 (i := 144) rfl rfl
theorem zw_1345 : Cond.code yJ0_isLatin1_aae02 cJ0_isLatin1_aae02 1 (some .boolean) ∈ zq_tb := zq_in6 (i := 145) rfl rfl
theorem zw_1346 : Cond.methodLink RJ0 495 yJ1_charAt_3b067 ∈ zq_tb := zq_in6 (i := 146) rfl rfl
theorem zw_1347 : Cond.static yJ1_charAt_3b067 ∈ zq_tb := zq_in6 (i := 147) rfl rfl
theorem zw_1348 : Cond.code yJ1_charAt_3b067 cJ1_charAt_3b067 2 (some .char) ∈ zq_tb := zq_in6 (i := 148) rfl rfl
theorem zw_1349 : Cond.methodLink RJ1 9 yJ0_checkIndex_df160 ∈ zq_tb := zq_in6 (i := 149) rfl rfl
theorem zw_1350 : Cond.static yJ0_checkIndex_df160 ∈ zq_tb := zq_in6 (i := 150) rfl rfl
theorem zw_1351 : Cond.code yJ0_checkIndex_df160 cJ0_checkIndex_df160 2 none ∈ zq_tb := zq_in6 (i := 151) rfl rfl
theorem zw_1352 : Cond.fieldLink RJ0 1053 RJ3 "SIOOBE_FORMATTER" "Ljava/util/function/BiFunction;" ∈ zq_tb := zq_in6 (i := 152) rfl rfl
theorem zw_1354 : Cond.methodLink RJ0 1059 yJ3_checkIndex_8e157 ∈ zq_tb := zq_in6 (i := 154) rfl rfl
theorem zw_1355 : Cond.static yJ3_checkIndex_8e157 ∈ zq_tb := zq_in6 (i := 155) rfl rfl
theorem zw_1356 : Cond.code yJ3_checkIndex_8e157 cJ3_checkIndex_8e157 3 (some .int) ∈ zq_tb := zq_in6 (i := 156) rfl rfl
theorem zw_1357 : Cond.methodLink RJ0 498 yJ2_charAt_3b067 ∈ zq_tb := zq_in6 (i := 157) rfl rfl
theorem zw_1358 : Cond.static yJ2_charAt_3b067 ∈ zq_tb := zq_in6 (i := 158) rfl rfl
theorem zw_1359 : Cond.code yJ2_charAt_3b067 cJ2_charAt_3b067 2 (some .char) ∈ zq_tb := zq_in6 (i := 159) rfl rfl
theorem zw_1376 : Cond.methodLink RX12 224 yX12_takesOf ∈ zq_tb := zq_in6 (i := 176) rfl rfl
theorem zw_1378 : Cond.instanceMethod yX12_takesOf ∈ zq_tb := zq_in6 (i := 178) rfl rfl
theorem zw_1379 : Cond.code yX12_takesOf cX12_takesOf 3 (some .int) ∈ zq_tb := zq_in6 (i := 179) rfl rfl
theorem zw_1380 : Cond.methodLink RX12 190 yX12_flag ∈ zq_tb := zq_in6 (i := 180) rfl rfl
theorem zw_1381 : Cond.static yX12_flag ∈ zq_tb := zq_in6 (i := 181) rfl rfl
theorem zw_1382 : Cond.code yX12_flag cX12_flag 1 (some .int) ∈ zq_tb := zq_in6 (i := 182) rfl rfl
theorem zw_1384 : Cond.methodLink RX12 229 yX12_takes ∈ zq_tb := zq_in6 (i := 184) rfl rfl
theorem zw_1386 : Cond.instanceMethod yX12_takes ∈ zq_tb := zq_in6 (i := 186) rfl rfl
theorem zw_1387 : Cond.code yX12_takes cX12_takes 3 (some .boolean) ∈ zq_tb := zq_in6 (i := 187) rfl rfl
theorem zw_1388 : Cond.methodLink RX12 232 yX12_faultOf ∈ zq_tb := zq_in6 (i := 188) rfl rfl
theorem zw_1390 : Cond.instanceMethod yX12_faultOf ∈ zq_tb := zq_in6 (i := 190) rfl rfl
theorem zw_1391 : Cond.code yX12_faultOf cX12_faultOf 5 (some .int) ∈ zq_tb := zq_in6 (i := 191) rfl rfl
theorem zw_1395 : Cond.code yX12_guests cX12_guests 7 (some .int) ∈ zq_tb := zq_in6 (i := 195) rfl rfl
theorem zw_1396 : Cond.methodLink RX12 251 yX12_readsGuest ∈ zq_tb := zq_in6 (i := 196) rfl rfl
theorem zw_1398 : Cond.instanceMethod yX12_readsGuest ∈ zq_tb := zq_in6 (i := 198) rfl rfl
theorem zw_1399 : Cond.code yX12_readsGuest cX12_readsGuest 3 (some .boolean) ∈ zq_tb := zq_in6 (i := 199) rfl rfl
theorem zw_1400 : Cond.methodLink RX12 248 yX12_number ∈ zq_tb := zq_in6 (i := 200) rfl rfl
theorem zw_1402 : Cond.instanceMethod yX12_number ∈ zq_tb := zq_in6 (i := 202) rfl rfl
theorem zw_1403 : Cond.code yX12_number cX12_number 4 (some .int) ∈ zq_tb := zq_in6 (i := 203) rfl rfl
theorem zw_1404 : Cond.methodLink RX12 212 yX12_isDigit ∈ zq_tb := zq_in6 (i := 204) rfl rfl
theorem zw_1406 : Cond.instanceMethod yX12_isDigit ∈ zq_tb := zq_in6 (i := 206) rfl rfl
theorem zw_1407 : Cond.code yX12_isDigit cX12_isDigit 1 (some .boolean) ∈ zq_tb := zq_in6 (i := 207) rfl rfl
theorem zw_1408 : Cond.constantLong RX12 194 (48 : Int64) ∈ zq_tb := zq_in6 (i := 208) rfl rfl
theorem zw_1409 : Cond.constantLong RX12 196 (57 : Int64) ∈ zq_tb := zq_in6 (i := 209) rfl rfl
theorem zw_1413 : Cond.code yX12_deeds cX12_deeds 6 (some .int) ∈ zq_tb := zq_in6 (i := 213) rfl rfl
theorem zw_1414 : Cond.methodLink RX12 259 yX12_readsDeed ∈ zq_tb := zq_in6 (i := 214) rfl rfl
theorem zw_1416 : Cond.instanceMethod yX12_readsDeed ∈ zq_tb := zq_in6 (i := 216) rfl rfl
theorem zw_1417 : Cond.code yX12_readsDeed cX12_readsDeed 5 (some .boolean) ∈ zq_tb := zq_in6 (i := 217) rfl rfl
theorem zw_1419 : Cond.methodLink RX12 256 yX12_letter ∈ zq_tb := zq_in6 (i := 219) rfl rfl
theorem zw_1421 : Cond.instanceMethod yX12_letter ∈ zq_tb := zq_in6 (i := 221) rfl rfl
theorem zw_1422 : Cond.code yX12_letter cX12_letter 2 (some .int) ∈ zq_tb := zq_in6 (i := 222) rfl rfl
theorem zw_1423 : Cond.constantLong RX12 216 (97 : Int64) ∈ zq_tb := zq_in6 (i := 223) rfl rfl
theorem zw_1424 : Cond.methodLink RX12 262 yJ9_max_7cf53 ∈ zq_tb := zq_in6 (i := 224) rfl rfl
theorem zw_1425 : Cond.methodLink RX12 265 yX12_allDeserts ∈ zq_tb := zq_in6 (i := 225) rfl rfl
theorem zw_1427 : Cond.instanceMethod yX12_allDeserts ∈ zq_tb := zq_in6 (i := 227) rfl rfl
theorem zw_1428 : Cond.code yX12_allDeserts cX12_allDeserts 3 (some .int) ∈ zq_tb := zq_in6 (i := 228) rfl rfl
theorem zw_1432 : Cond.code yX12_rule cX12_rule 5 (some .int) ∈ zq_tb := zq_in6 (i := 232) rfl rfl
theorem zw_1433 : Cond.methodLink RX12 280 yX12_readsRank ∈ zq_tb := zq_in6 (i := 233) rfl rfl
theorem zw_1435 : Cond.instanceMethod yX12_readsRank ∈ zq_tb := zq_in6 (i := 235) rfl rfl
theorem zw_1436 : Cond.code yX12_readsRank cX12_readsRank 4 (some .boolean) ∈ zq_tb := zq_in6 (i := 236) rfl rfl
theorem zw_1437 : Cond.methodLink RX12 271 yX12_readsThing ∈ zq_tb := zq_in6 (i := 237) rfl rfl
theorem zw_1439 : Cond.instanceMethod yX12_readsThing ∈ zq_tb := zq_in6 (i := 239) rfl rfl
theorem zw_1440 : Cond.code yX12_readsThing cX12_readsThing 2 (some .boolean) ∈ zq_tb := zq_in7 (i := 0) rfl rfl
theorem zw_1441 : Cond.methodLink RX12 274 yX12_codes ∈ zq_tb := zq_in7 (i := 1) rfl rfl
theorem zw_1443 : Cond.instanceMethod yX12_codes ∈ zq_tb := zq_in7 (i := 3) rfl rfl
theorem zw_1444 : Cond.code yX12_codes cX12_codes 2 none ∈ zq_tb := zq_in7 (i := 4) rfl rfl
theorem zw_1452 : Cond.code yX12_cell cX12_cell 3 (some .int) ∈ zq_tb := zq_in7 (i := 12) rfl rfl
theorem zw_1453 : Cond.methodLink RX12 168 yX12_isCell ∈ zq_tb := zq_in7 (i := 13) rfl rfl
theorem zw_1455 : Cond.instanceMethod yX12_isCell ∈ zq_tb := zq_in7 (i := 15) rfl rfl
theorem zw_1456 : Cond.code yX12_isCell cX12_isCell 2 (some .boolean) ∈ zq_tb := zq_in7 (i := 16) rfl rfl
theorem zw_1457 : Cond.constantLong RX12 308 (3 : Int64) ∈ zq_tb := zq_in7 (i := 17) rfl rfl
theorem zw_1458 : Cond.methodLink RX12 310 yX12_refuse ∈ zq_tb := zq_in7 (i := 18) rfl rfl
theorem zw_1460 : Cond.instanceMethod yX12_refuse ∈ zq_tb := zq_in7 (i := 20) rfl rfl
theorem zw_1461 : Cond.code yX12_refuse cX12_refuse 1 (some .int) ∈ zq_tb := zq_in7 (i := 21) rfl rfl
theorem zw_1465 : Cond.code yX12_guest cX12_guest 3 (some .int) ∈ zq_tb := zq_in7 (i := 25) rfl rfl
theorem zw_1466 : Cond.methodLink RX12 313 yX12_isGuest ∈ zq_tb := zq_in7 (i := 26) rfl rfl
theorem zw_1468 : Cond.instanceMethod yX12_isGuest ∈ zq_tb := zq_in7 (i := 28) rfl rfl
theorem zw_1469 : Cond.code yX12_isGuest cX12_isGuest 2 (some .boolean) ∈ zq_tb := zq_in7 (i := 29) rfl rfl
theorem zw_1470 : Cond.constantLong RX12 316 (7 : Int64) ∈ zq_tb := zq_in7 (i := 30) rfl rfl
theorem zw_1471 : Cond.methodLink RX12 318 yX12_laysTable ∈ zq_tb := zq_in7 (i := 31) rfl rfl
theorem zw_1473 : Cond.instanceMethod yX12_laysTable ∈ zq_tb := zq_in7 (i := 33) rfl rfl
theorem zw_1474 : Cond.code yX12_laysTable cX12_laysTable 3 none ∈ zq_tb := zq_in7 (i := 34) rfl rfl
theorem zw_1475 : Cond.methodLink RX12 303 yX12_worthOf ∈ zq_tb := zq_in7 (i := 35) rfl rfl
theorem zw_1477 : Cond.instanceMethod yX12_worthOf ∈ zq_tb := zq_in7 (i := 37) rfl rfl
theorem zw_1478 : Cond.code yX12_worthOf cX12_worthOf 3 (some .int) ∈ zq_tb := zq_in7 (i := 38) rfl rfl
theorem zw_1479 : Cond.methodLink RX12 299 yX12_worthBy ∈ zq_tb := zq_in7 (i := 39) rfl rfl
theorem zw_1481 : Cond.instanceMethod yX12_worthBy ∈ zq_tb := zq_in7 (i := 41) rfl rfl
theorem zw_1482 : Cond.code yX12_worthBy cX12_worthBy 6 (some .int) ∈ zq_tb := zq_in7 (i := 42) rfl rfl
theorem zw_1483 : Cond.methodLink RX12 296 yX12_ruled ∈ zq_tb := zq_in7 (i := 43) rfl rfl
theorem zw_1485 : Cond.instanceMethod yX12_ruled ∈ zq_tb := zq_in7 (i := 45) rfl rfl
theorem zw_1486 : Cond.code yX12_ruled cX12_ruled 4 (some .int) ∈ zq_tb := zq_in7 (i := 46) rfl rfl
theorem zw_1487 : Cond.methodLink RX12 292 yX12_worked ∈ zq_tb := zq_in7 (i := 47) rfl rfl
theorem zw_1488 : Cond.static yX12_worked ∈ zq_tb := zq_in7 (i := 48) rfl rfl
theorem zw_1489 : Cond.code yX12_worked cX12_worked 3 (some .int) ∈ zq_tb := zq_in7 (i := 49) rfl rfl
theorem zw_1490 : Cond.methodLink RX12 321 yX12_holds ∈ zq_tb := zq_in7 (i := 50) rfl rfl
theorem zw_1492 : Cond.instanceMethod yX12_holds ∈ zq_tb := zq_in7 (i := 52) rfl rfl
theorem zw_1493 : Cond.code yX12_holds cX12_holds 4 (some .int) ∈ zq_tb := zq_in7 (i := 53) rfl rfl
theorem zw_1494 : Cond.methodLink RX12 324 yX12_held ∈ zq_tb := zq_in7 (i := 54) rfl rfl
theorem zw_1496 : Cond.instanceMethod yX12_held ∈ zq_tb := zq_in7 (i := 56) rfl rfl
theorem zw_1497 : Cond.code yX12_held cX12_held 5 (some .int) ∈ zq_tb := zq_in7 (i := 57) rfl rfl
theorem zw_1498 : Cond.methodLink RX12 327 yX12_isDue ∈ zq_tb := zq_in7 (i := 58) rfl rfl
theorem zw_1500 : Cond.instanceMethod yX12_isDue ∈ zq_tb := zq_in7 (i := 60) rfl rfl
theorem zw_1501 : Cond.code yX12_isDue cX12_isDue 5 (some .boolean) ∈ zq_tb := zq_in7 (i := 61) rfl rfl
theorem zw_1502 : Cond.constantLong RX12 306 (100 : Int64) ∈ zq_tb := zq_in7 (i := 62) rfl rfl
theorem zw_1506 : Cond.code yX12_worth cX12_worth 3 (some .int) ∈ zq_tb := zq_in7 (i := 66) rfl rfl
theorem zw_1510 : Cond.code yX12_taste cX12_taste 5 (some .int) ∈ zq_tb := zq_in7 (i := 70) rfl rfl
theorem zw_1511 : Cond.constantLong RX12 331 (2 : Int64) ∈ zq_tb := zq_in7 (i := 71) rfl rfl
theorem zw_1512 : Cond.constantLong RX12 333 (9 : Int64) ∈ zq_tb := zq_in7 (i := 72) rfl rfl
theorem zw_1516 : Cond.code yX12_sheet cX12_sheet 9 (some .int) ∈ zq_tb := zq_in7 (i := 76) rfl rfl
theorem zw_1520 : Cond.code yX12_undo cX12_undo 2 (some .int) ∈ zq_tb := zq_in7 (i := 80) rfl rfl
theorem zw_1524 : Cond.code yX12_give cX12_give 4 (some .int) ∈ zq_tb := zq_in7 (i := 84) rfl rfl
theorem zw_1525 : Cond.methodLink RX12 342 yX12_putsBy ∈ zq_tb := zq_in7 (i := 85) rfl rfl
theorem zw_1527 : Cond.instanceMethod yX12_putsBy ∈ zq_tb := zq_in7 (i := 87) rfl rfl
theorem zw_1528 : Cond.code yX12_putsBy cX12_putsBy 2 none ∈ zq_tb := zq_in7 (i := 88) rfl rfl
theorem zw_1529 : Cond.methodLink RX12 345 yX12_gives ∈ zq_tb := zq_in7 (i := 89) rfl rfl
theorem zw_1531 : Cond.instanceMethod yX12_gives ∈ zq_tb := zq_in7 (i := 91) rfl rfl
theorem zw_1532 : Cond.code yX12_gives cX12_gives 6 (some .int) ∈ zq_tb := zq_in7 (i := 92) rfl rfl
theorem zw_1533 : Cond.methodLink RX12 338 yX12_isSlice ∈ zq_tb := zq_in7 (i := 93) rfl rfl
theorem zw_1535 : Cond.instanceMethod yX12_isSlice ∈ zq_tb := zq_in7 (i := 95) rfl rfl
theorem zw_1536 : Cond.code yX12_isSlice cX12_isSlice 3 (some .boolean) ∈ zq_tb := zq_in7 (i := 96) rfl rfl
theorem zw_1537 : Cond.methodLink RX12 348 yX12_counts ∈ zq_tb := zq_in7 (i := 97) rfl rfl
theorem zw_1539 : Cond.instanceMethod yX12_counts ∈ zq_tb := zq_in7 (i := 99) rfl rfl
theorem zw_1540 : Cond.code yX12_counts cX12_counts 2 (some .int) ∈ zq_tb := zq_in7 (i := 100) rfl rfl
theorem zw_1541 : Cond.methodLink RX12 335 yX12_adds ∈ zq_tb := zq_in7 (i := 101) rfl rfl
theorem zw_1543 : Cond.instanceMethod yX12_adds ∈ zq_tb := zq_in7 (i := 103) rfl rfl
theorem zw_1544 : Cond.code yX12_adds cX12_adds 3 (some .int) ∈ zq_tb := zq_in7 (i := 104) rfl rfl
theorem zw_1548 : Cond.code yX12_back cX12_back 3 (some .int) ∈ zq_tb := zq_in7 (i := 108) rfl rfl
theorem zw_1549 : Cond.methodLink RX12 351 yX12_backs ∈ zq_tb := zq_in7 (i := 109) rfl rfl
theorem zw_1551 : Cond.instanceMethod yX12_backs ∈ zq_tb := zq_in7 (i := 111) rfl rfl
theorem zw_1552 : Cond.code yX12_backs cX12_backs 6 (some .int) ∈ zq_tb := zq_in7 (i := 112) rfl rfl
theorem zw_1556 : Cond.code yX12_mouse cX12_mouse 2 (some .int) ∈ zq_tb := zq_in7 (i := 116) rfl rfl
theorem zw_1557 : Cond.methodLink RX12 354 yX12_eats ∈ zq_tb := zq_in7 (i := 117) rfl rfl
theorem zw_1559 : Cond.instanceMethod yX12_eats ∈ zq_tb := zq_in7 (i := 119) rfl rfl
theorem zw_1560 : Cond.code yX12_eats cX12_eats 2 (some .int) ∈ zq_tb := zq_in7 (i := 120) rfl rfl
theorem zw_1564 : Cond.code yX12_supper cX12_supper 6 (some .int) ∈ zq_tb := zq_in7 (i := 124) rfl rfl
theorem zw_1565 : Cond.methodLink RX12 362 yX12_readsAct ∈ zq_tb := zq_in7 (i := 125) rfl rfl
theorem zw_1567 : Cond.instanceMethod yX12_readsAct ∈ zq_tb := zq_in7 (i := 127) rfl rfl
theorem zw_1568 : Cond.code yX12_readsAct cX12_readsAct 2 (some .boolean) ∈ zq_tb := zq_in7 (i := 128) rfl rfl
theorem zw_1570 : Cond.methodLink RX12 365 yX12_does ∈ zq_tb := zq_in7 (i := 130) rfl rfl
theorem zw_1572 : Cond.instanceMethod yX12_does ∈ zq_tb := zq_in7 (i := 132) rfl rfl
theorem zw_1573 : Cond.code yX12_does cX12_does 3 (some .boolean) ∈ zq_tb := zq_in7 (i := 133) rfl rfl
theorem zw_1574 : Cond.methodLink RX12 368 yX12_enters ∈ zq_tb := zq_in7 (i := 134) rfl rfl
theorem zw_1576 : Cond.instanceMethod yX12_enters ∈ zq_tb := zq_in7 (i := 136) rfl rfl
theorem zw_1577 : Cond.code yX12_enters cX12_enters 3 none ∈ zq_tb := zq_in7 (i := 137) rfl rfl
theorem zw_1581 : Cond.code yX12_seen cX12_seen 3 (some .int) ∈ zq_tb := zq_in7 (i := 141) rfl rfl
theorem zw_1585 : Cond.code yX12_envy cX12_envy 4 (some .int) ∈ zq_tb := zq_in7 (i := 145) rfl rfl
theorem zw_1589 : Cond.code yX12_wronged cX12_wronged 4 (some .int) ∈ zq_tb := zq_in7 (i := 149) rfl rfl
theorem zw_1590 : Cond.methodLink RX12 372 yJ6_bitCount_0f7a4 ∈ zq_tb := zq_in7 (i := 150) rfl rfl
theorem zw_1594 : Cond.code yX12_happiest cX12_happiest 11 (some .int) ∈ zq_tb := zq_in7 (i := 154) rfl rfl
theorem zw_1595 : Cond.methodLink RX12 151 yX12_common ∈ zq_tb := zq_in7 (i := 155) rfl rfl
theorem zw_1596 : Cond.static yX12_common ∈ zq_tb := zq_in7 (i := 156) rfl rfl
theorem zw_1597 : Cond.code yX12_common cX12_common 4 (some .long) ∈ zq_tb := zq_in7 (i := 157) rfl rfl
theorem zw_1601 : Cond.code yX12_pieces cX12_pieces 7 (some .int) ∈ zq_tb := zq_in7 (i := 161) rfl rfl
theorem zw_1605 : Cond.code yX12_trade cX12_trade 11 (some .int) ∈ zq_tb := zq_in7 (i := 165) rfl rfl
theorem zw_1609 : Cond.code yX12_slices cX12_slices 3 (some .int) ∈ zq_tb := zq_in7 (i := 169) rfl rfl
theorem zw_1610 : Cond.methodLink RX12 392 yX12_all ∈ zq_tb := zq_in7 (i := 170) rfl rfl
theorem zw_1612 : Cond.instanceMethod yX12_all ∈ zq_tb := zq_in7 (i := 172) rfl rfl
theorem zw_1613 : Cond.code yX12_all cX12_all 1 (some .int) ∈ zq_tb := zq_in7 (i := 173) rfl rfl
theorem zw_1614 : Cond.methodLink RX12 395 yX12_canServe ∈ zq_tb := zq_in7 (i := 174) rfl rfl
theorem zw_1616 : Cond.instanceMethod yX12_canServe ∈ zq_tb := zq_in7 (i := 176) rfl rfl
theorem zw_1617 : Cond.code yX12_canServe cX12_canServe 3 (some .boolean) ∈ zq_tb := zq_in7 (i := 177) rfl rfl
theorem zw_1618 : Cond.methodLink RX12 388 yX12_serves ∈ zq_tb := zq_in7 (i := 178) rfl rfl
theorem zw_1620 : Cond.instanceMethod yX12_serves ∈ zq_tb := zq_in7 (i := 180) rfl rfl
theorem zw_1621 : Cond.code yX12_serves cX12_serves 7 none ∈ zq_tb := zq_in7 (i := 181) rfl rfl
theorem zw_1622 : Cond.methodLink RX12 380 yX12_isTurnLess ∈ zq_tb := zq_in7 (i := 182) rfl rfl
theorem zw_1624 : Cond.instanceMethod yX12_isTurnLess ∈ zq_tb := zq_in7 (i := 184) rfl rfl
theorem zw_1625 : Cond.code yX12_isTurnLess cX12_isTurnLess 3 (some .boolean) ∈ zq_tb := zq_in7 (i := 185) rfl rfl
theorem zw_1626 : Cond.methodLink RX12 383 yX12_has ∈ zq_tb := zq_in7 (i := 186) rfl rfl
theorem zw_1627 : Cond.static yX12_has ∈ zq_tb := zq_in7 (i := 187) rfl rfl
theorem zw_1628 : Cond.code yX12_has cX12_has 2 (some .boolean) ∈ zq_tb := zq_in7 (i := 188) rfl rfl
theorem zw_1629 : Cond.methodLink RX12 385 yX12_endFor ∈ zq_tb := zq_in7 (i := 189) rfl rfl
theorem zw_1631 : Cond.instanceMethod yX12_endFor ∈ zq_tb := zq_in7 (i := 191) rfl rfl
theorem zw_1632 : Cond.code yX12_endFor cX12_endFor 7 (some .int) ∈ zq_tb := zq_in7 (i := 192) rfl rfl
theorem zw_1636 : Cond.code yX12_quarrel cX12_quarrel 4 (some .int) ∈ zq_tb := zq_in7 (i := 196) rfl rfl
theorem zw_1640 : Cond.code yX12_stretch cX12_stretch 2 (some .int) ∈ zq_tb := zq_in7 (i := 200) rfl rfl
theorem zw_1644 : Cond.code yX12_richest cX12_richest 5 (some .int) ∈ zq_tb := zq_in7 (i := 204) rfl rfl
theorem zw_1645 : Cond.methodLink RX12 398 yX12_sliceOf ∈ zq_tb := zq_in7 (i := 205) rfl rfl
theorem zw_1647 : Cond.instanceMethod yX12_sliceOf ∈ zq_tb := zq_in7 (i := 207) rfl rfl
theorem zw_1648 : Cond.code yX12_sliceOf cX12_sliceOf 6 (some .int) ∈ zq_tb := zq_in7 (i := 208) rfl rfl
theorem zw_1652 : Cond.code yX12_parts cX12_parts 4 (some .int) ∈ zq_tb := zq_in7 (i := 212) rfl rfl
theorem zw_1653 : Cond.constantLong RX12 408 (6 : Int64) ∈ zq_tb := zq_in7 (i := 213) rfl rfl
theorem zw_1654 : Cond.constant RX12 410 (2147483647 : Int32) ∈ zq_tb := zq_in7 (i := 214) rfl rfl
theorem zw_1655 : Cond.methodLink RX12 404 yX12_partsOn ∈ zq_tb := zq_in7 (i := 215) rfl rfl
theorem zw_1657 : Cond.instanceMethod yX12_partsOn ∈ zq_tb := zq_in7 (i := 217) rfl rfl
theorem zw_1658 : Cond.code yX12_partsOn cX12_partsOn 8 none ∈ zq_tb := zq_in7 (i := 218) rfl rfl
theorem zw_1662 : Cond.code yX12_calm cX12_calm 2 (some .int) ∈ zq_tb := zq_in7 (i := 222) rfl rfl
theorem zw_1663 : Cond.methodLink RX12 421 yX12_calmsFrom ∈ zq_tb := zq_in7 (i := 223) rfl rfl
theorem zw_1665 : Cond.instanceMethod yX12_calmsFrom ∈ zq_tb := zq_in7 (i := 225) rfl rfl
theorem zw_1666 : Cond.code yX12_calmsFrom cX12_calmsFrom 4 none ∈ zq_tb := zq_in7 (i := 226) rfl rfl
theorem zw_1667 : Cond.methodLink RX12 411 yX12_isCalm ∈ zq_tb := zq_in7 (i := 227) rfl rfl
theorem zw_1669 : Cond.instanceMethod yX12_isCalm ∈ zq_tb := zq_in7 (i := 229) rfl rfl
theorem zw_1670 : Cond.code yX12_isCalm cX12_isCalm 4 (some .boolean) ∈ zq_tb := zq_in7 (i := 230) rfl rfl
theorem zw_1671 : Cond.methodLink RX12 417 yX12_goesTo ∈ zq_tb := zq_in7 (i := 231) rfl rfl
theorem zw_1673 : Cond.instanceMethod yX12_goesTo ∈ zq_tb := zq_in7 (i := 233) rfl rfl
theorem zw_1674 : Cond.code yX12_goesTo cX12_goesTo 5 none ∈ zq_tb := zq_in7 (i := 234) rfl rfl
theorem zw_1678 : Cond.code yX12_cuts cX12_cuts 9 (some .int) ∈ zq_tb := zq_in7 (i := 238) rfl rfl
theorem zw_1679 : Cond.methodLink RX12 425 yJ9_abs_0f7a4 ∈ zq_tb := zq_in7 (i := 239) rfl rfl
theorem zw_1683 : Cond.code yX12_byturns cX12_byturns 3 (some .int) ∈ zq_tb := zq_in8 (i := 3) rfl rfl
theorem zw_1684 : Cond.methodLink RX12 434 yX12_readsTurns ∈ zq_tb := zq_in8 (i := 4) rfl rfl
theorem zw_1686 : Cond.instanceMethod yX12_readsTurns ∈ zq_tb := zq_in8 (i := 6) rfl rfl
theorem zw_1687 : Cond.code yX12_readsTurns cX12_readsTurns 3 (some .int) ∈ zq_tb := zq_in8 (i := 7) rfl rfl
theorem zw_1688 : Cond.methodLink RX12 437 yX12_picksAsWorth ∈ zq_tb := zq_in8 (i := 8) rfl rfl
theorem zw_1690 : Cond.instanceMethod yX12_picksAsWorth ∈ zq_tb := zq_in8 (i := 10) rfl rfl
theorem zw_1691 : Cond.code yX12_picksAsWorth cX12_picksAsWorth 2 none ∈ zq_tb := zq_in8 (i := 11) rfl rfl
theorem zw_1692 : Cond.methodLink RX12 440 yX12_goesByTurns ∈ zq_tb := zq_in8 (i := 12) rfl rfl
theorem zw_1694 : Cond.instanceMethod yX12_goesByTurns ∈ zq_tb := zq_in8 (i := 14) rfl rfl
theorem zw_1695 : Cond.code yX12_goesByTurns cX12_goesByTurns 6 none ∈ zq_tb := zq_in8 (i := 15) rfl rfl
theorem zw_1699 : Cond.code yX12_lies cX12_lies 11 (some .int) ∈ zq_tb := zq_in8 (i := 19) rfl rfl
theorem zw_1703 : Cond.code yX12_chose cX12_chose 3 (some .int) ∈ zq_tb := zq_in8 (i := 23) rfl rfl
theorem zw_1707 : Cond.code yX12_forget cX12_forget 2 (some .int) ∈ zq_tb := zq_in8 (i := 27) rfl rfl
theorem zw_1711 : Cond.code yX12_tastes cX12_tastes 7 (some .int) ∈ zq_tb := zq_in8 (i := 31) rfl rfl
theorem zw_1712 : Cond.methodLink RX12 443 yX12_fitsBy ∈ zq_tb := zq_in8 (i := 32) rfl rfl
theorem zw_1714 : Cond.instanceMethod yX12_fitsBy ∈ zq_tb := zq_in8 (i := 34) rfl rfl
theorem zw_1715 : Cond.code yX12_fitsBy cX12_fitsBy 7 (some .boolean) ∈ zq_tb := zq_in8 (i := 35) rfl rfl
theorem zw_1719 : Cond.code yX12_offer cX12_offer 7 (some .int) ∈ zq_tb := zq_in8 (i := 39) rfl rfl
theorem zw_1723 : Cond.code yX12_claims cX12_claims 6 (some .int) ∈ zq_tb := zq_in8 (i := 43) rfl rfl
theorem zw_1724 : Cond.methodLink RX12 447 yX12_meets ∈ zq_tb := zq_in8 (i := 44) rfl rfl
theorem zw_1726 : Cond.instanceMethod yX12_meets ∈ zq_tb := zq_in8 (i := 46) rfl rfl
theorem zw_1727 : Cond.code yX12_meets cX12_meets 6 none ∈ zq_tb := zq_in8 (i := 47) rfl rfl
theorem zw_1731 : Cond.code yX12_settle cX12_settle 8 (some .int) ∈ zq_tb := zq_in8 (i := 51) rfl rfl
theorem zw_1732 : Cond.constantLong RX12 450 (999 : Int64) ∈ zq_tb := zq_in8 (i := 52) rfl rfl
theorem zw_1736 : Cond.code yX12_nothing cX12_nothing 8 (some .int) ∈ zq_tb := zq_in8 (i := 56) rfl rfl
theorem zw_1737 : Cond.methodLink RX12 452 yX12_crumbsAll ∈ zq_tb := zq_in8 (i := 57) rfl rfl
theorem zw_1739 : Cond.instanceMethod yX12_crumbsAll ∈ zq_tb := zq_in8 (i := 59) rfl rfl
theorem zw_1740 : Cond.code yX12_crumbsAll cX12_crumbsAll 3 (some .int) ∈ zq_tb := zq_in8 (i := 60) rfl rfl
theorem zw_1744 : Cond.code yX12_ate cX12_ate 6 (some .int) ∈ zq_tb := zq_in8 (i := 64) rfl rfl
theorem zw_1745 : Cond.constantLong RX12 455 (9999 : Int64) ∈ zq_tb := zq_in8 (i := 65) rfl rfl
theorem zw_1746 : Cond.methodLink RX12 457 yX12_desertsOf ∈ zq_tb := zq_in8 (i := 66) rfl rfl
theorem zw_1748 : Cond.instanceMethod yX12_desertsOf ∈ zq_tb := zq_in8 (i := 68) rfl rfl
theorem zw_1749 : Cond.code yX12_desertsOf cX12_desertsOf 4 (some .int) ∈ zq_tb := zq_in8 (i := 69) rfl rfl
theorem zw_1753 : Cond.code yX12_enough cX12_enough 5 (some .int) ∈ zq_tb := zq_in8 (i := 73) rfl rfl
theorem zw_1754 : Cond.constantLong RX12 467 (10 : Int64) ∈ zq_tb := zq_in8 (i := 74) rfl rfl
theorem zw_1755 : Cond.methodLink RX12 469 yX12_bets ∈ zq_tb := zq_in8 (i := 75) rfl rfl
theorem zw_1757 : Cond.instanceMethod yX12_bets ∈ zq_tb := zq_in8 (i := 77) rfl rfl
theorem zw_1758 : Cond.code yX12_bets cX12_bets 7 none ∈ zq_tb := zq_in8 (i := 78) rfl rfl
theorem zw_1762 : Cond.code yX12_wide cX12_wide 7 (some .int) ∈ zq_tb := zq_in8 (i := 82) rfl rfl
theorem zw_1766 : Cond.code yX12_suppers cX12_suppers 6 (some .int) ∈ zq_tb := zq_in8 (i := 86) rfl rfl
theorem zw_1767 : Cond.constantLong RX12 472 (50 : Int64) ∈ zq_tb := zq_in8 (i := 87) rfl rfl
theorem zw_1768 : Cond.constant RX12 474 (1103515245 : Int32) ∈ zq_tb := zq_in8 (i := 88) rfl rfl
theorem zw_1772 : Cond.code yX12_keep cX12_keep 3 (some .boolean) ∈ zq_tb := zq_in8 (i := 92) rfl rfl
theorem zw_1776 : Cond.code yX12_again cX12_again 3 (some .boolean) ∈ zq_tb := zq_in8 (i := 96) rfl rfl
theorem zw_1780 : Cond.code yX12_count cX12_count 2 (some .int) ∈ zq_tb := zq_in8 (i := 100) rfl rfl
theorem zw_1784 : Cond.code yX12_row cX12_row 2 (some .long) ∈ zq_tb := zq_in8 (i := 104) rfl rfl
theorem zw_1802 : Cond.fieldLink RJ0 9 RJ0 "value" "[B" ∈ zq_tb := zq_in8 (i := 122) rfl rfl
theorem zw_1803 : Cond.fieldLink RJ0 15 RJ0 "coder" "B" ∈ zq_tb := zq_in8 (i := 123) rfl rfl
theorem zy_X11_again : zq_y yX11_again cX11_again 2 (some .boolean) 1 := ⟨zw_991, zw_1, by decide +kernel, by decide⟩
theorem zy_X11_areGuests : zq_y yX11_areGuests cX11_areGuests 2 (some .boolean) 1 := ⟨zw_729, zw_1, by decide +kernel, by decide⟩
theorem zy_X11_ate : zq_y yX11_ate cX11_ate 7 (some .int) 1 := ⟨zw_956, zw_1, by decide +kernel, by decide⟩
theorem zy_X11_back : zq_y yX11_back cX11_back 5 (some .int) 2 := ⟨zw_615, zw_1, by decide +kernel, by decide⟩
theorem zy_X11_bestOfLeasts : zq_y yX11_bestOfLeasts cX11_bestOfLeasts 8 (some .int) 2 := ⟨zw_795, zw_1, by decide +kernel, by decide⟩
theorem zy_X11_byturns : zq_y yX11_byturns cX11_byturns 4 (some .int) 0 := ⟨zw_843, zw_1, by decide +kernel, by decide⟩
theorem zy_X11_calm : zq_y yX11_calm cX11_calm 1 (some .int) 0 := ⟨zw_799, zw_1, by decide +kernel, by decide⟩
theorem zy_X11_cell : zq_y yX11_cell cX11_cell 3 (some .int) 2 := ⟨zw_1007, zw_1, by decide +kernel, by decide⟩
theorem zy_X11_cellsWith : zq_y yX11_cellsWith cX11_cellsWith 4 (some .int) 1 := ⟨zw_661, zw_1, by decide +kernel, by decide⟩
theorem zy_X11_chose : zq_y yX11_chose cX11_chose 3 (some .int) 2 := ⟨zw_878, zw_1, by decide +kernel, by decide⟩
theorem zy_X11_claims : zq_y yX11_claims cX11_claims 6 (some .int) 0 := ⟨zw_926, zw_1, by decide +kernel, by decide⟩
theorem zy_X11_count : zq_y yX11_count cX11_count 2 (some .int) 1 := ⟨zw_999, zw_1, by decide +kernel, by decide⟩
theorem zy_X11_cuts : zq_y yX11_cuts cX11_cuts 10 (some .int) 2 := ⟨zw_836, zw_1, by decide +kernel, by decide⟩
theorem zy_X11_deeds : zq_y yX11_deeds cX11_deeds 2 (some .int) 0 := ⟨zw_475, zw_1, by decide +kernel, by decide⟩
theorem zy_X11_doAct : zq_y yX11_doAct cX11_doAct 3 (some .int) 1 := ⟨zw_649, zw_1, by decide +kernel, by decide⟩
theorem zy_X11_end : zq_y yX11_end cX11_end 2 (some .boolean) 1 := ⟨zw_375, zw_1, by decide +kernel, by decide⟩
theorem zy_X11_enough : zq_y yX11_enough cX11_enough 3 (some .int) 2 := ⟨zw_961, zw_1, by decide +kernel, by decide⟩
theorem zy_X11_envy : zq_y yX11_envy cX11_envy 5 (some .int) 0 := ⟨zw_681, zw_1, by decide +kernel, by decide⟩
theorem zy_X11_everyone : zq_y yX11_everyone cX11_everyone 1 (some .int) 0 := ⟨zw_733, zw_1, by decide +kernel, by decide⟩
theorem zy_X11_feedMouse : zq_y yX11_feedMouse cX11_feedMouse 2 (some .int) 1 := ⟨zw_627, zw_1, by decide +kernel, by decide⟩
theorem zy_X11_forget : zq_y yX11_forget cX11_forget 2 (some .int) 0 := ⟨zw_886, zw_1, by decide +kernel, by decide⟩
theorem zy_X11_give : zq_y yX11_give cX11_give 6 (some .int) 3 := ⟨zw_578, zw_1, by decide +kernel, by decide⟩
theorem zy_X11_giveSlice : zq_y yX11_giveSlice cX11_giveSlice 5 (some .int) 3 := ⟨zw_582, zw_1, by decide +kernel, by decide⟩
theorem zy_X11_guest : zq_y yX11_guest cX11_guest 3 (some .int) 2 := ⟨zw_1080, zw_1, by decide +kernel, by decide⟩
theorem zy_X11_guests : zq_y yX11_guests cX11_guests 2 (some .int) 0 := ⟨zw_459, zw_1, by decide +kernel, by decide⟩
theorem zy_X11_happiest : zq_y yX11_happiest cX11_happiest 11 (some .int) 0 := ⟨zw_704, zw_1, by decide +kernel, by decide⟩
theorem zy_X11_hasByLie : zq_y yX11_hasByLie cX11_hasByLie 6 (some .int) 3 := ⟨zw_873, zw_1, by decide +kernel, by decide⟩
theorem zy_X11_hasDue : zq_y yX11_hasDue cX11_hasDue 4 (some .boolean) 1 := ⟨zw_689, zw_1, by decide +kernel, by decide⟩
theorem zy_X11_isCell : zq_y yX11_isCell cX11_isCell 2 (some .boolean) 1 := ⟨zw_553, zw_1, by decide +kernel, by decide⟩
theorem zy_X11_isGuest : zq_y yX11_isGuest cX11_isGuest 2 (some .boolean) 1 := ⟨zw_549, zw_1, by decide +kernel, by decide⟩
theorem zy_X11_isSlice : zq_y yX11_isSlice cX11_isSlice 3 (some .boolean) 2 := ⟨zw_586, zw_1, by decide +kernel, by decide⟩
theorem zy_X11_jointGain : zq_y yX11_jointGain cX11_jointGain 7 (some .int) 4 := ⟨zw_721, zw_1, by decide +kernel, by decide⟩
theorem zy_X11_keep : zq_y yX11_keep cX11_keep 2 (some .boolean) 1 := ⟨zw_983, zw_1, by decide +kernel, by decide⟩
theorem zy_X11_lies : zq_y yX11_lies cX11_lies 7 (some .int) 1 := ⟨zw_869, zw_1, by decide +kernel, by decide⟩
theorem zy_X11_loaf : zq_y yX11_loaf cX11_loaf 3 (some .int) 0 := ⟨zw_383, zw_1, by decide +kernel, by decide⟩
theorem zy_X11_mouse : zq_y yX11_mouse cX11_mouse 4 (some .int) 1 := ⟨zw_623, zw_1, by decide +kernel, by decide⟩
theorem zy_X11_nothing : zq_y yX11_nothing cX11_nothing 5 (some .int) 0 := ⟨zw_944, zw_1, by decide +kernel, by decide⟩
theorem zy_X11_offer : zq_y yX11_offer cX11_offer 7 (some .int) 1 := ⟨zw_908, zw_1, by decide +kernel, by decide⟩
theorem zy_X11_parts : zq_y yX11_parts cX11_parts 7 (some .int) 2 := ⟨zw_791, zw_1, by decide +kernel, by decide⟩
theorem zy_X11_pieces : zq_y yX11_pieces cX11_pieces 7 (some .int) 1 := ⟨zw_713, zw_1, by decide +kernel, by decide⟩
theorem zy_X11_placeGuests : zq_y yX11_placeGuests cX11_placeGuests 7 none 1 := ⟨zw_737, zw_1, by decide +kernel, by decide⟩
theorem zy_X11_quarrel : zq_y yX11_quarrel cX11_quarrel 6 (some .int) 0 := ⟨zw_779, zw_1, by decide +kernel, by decide⟩
theorem zy_X11_readAct : zq_y yX11_readAct cX11_readAct 6 (some .boolean) 1 := ⟨zw_641, zw_1, by decide +kernel, by decide⟩
theorem zy_X11_readActs : zq_y yX11_readActs cX11_readActs 1 (some .boolean) 0 := ⟨zw_635, zw_1, by decide +kernel, by decide⟩
theorem zy_X11_remembered : zq_y yX11_remembered cX11_remembered 4 (some .int) 2 := ⟨zw_604, zw_1, by decide +kernel, by decide⟩
theorem zy_X11_renewWorths : zq_y yX11_renewWorths cX11_renewWorths 1 none 0 := ⟨zw_430, zw_1, by decide +kernel, by decide⟩
theorem zy_X11_richest : zq_y yX11_richest cX11_richest 5 (some .int) 2 := ⟨zw_787, zw_1, by decide +kernel, by decide⟩
theorem zy_X11_row : zq_y yX11_row cX11_row 2 (some .long) 1 := ⟨zw_1088, zw_1, by decide +kernel, by decide⟩
theorem zy_X11_rule : zq_y yX11_rule cX11_rule 3 (some .int) 0 := ⟨zw_505, zw_1, by decide +kernel, by decide⟩
theorem zy_X11_seen : zq_y yX11_seen cX11_seen 3 (some .int) 2 := ⟨zw_673, zw_1, by decide +kernel, by decide⟩
theorem zy_X11_settle : zq_y yX11_settle cX11_settle 8 (some .int) 2 := ⟨zw_940, zw_1, by decide +kernel, by decide⟩
theorem zy_X11_sheet : zq_y yX11_sheet cX11_sheet 9 (some .int) 4 := ⟨zw_569, zw_1, by decide +kernel, by decide⟩
theorem zy_X11_sheetEntry : zq_y yX11_sheetEntry cX11_sheetEntry 3 (some .int) 2 := ⟨zw_572, zw_1, by decide +kernel, by decide⟩
theorem zy_X11_sign : zq_y yX11_sign cX11_sign 2 (some .int) 1 := ⟨zw_367, zw_1, by decide +kernel, by decide⟩
theorem zy_X11_slices : zq_y yX11_slices cX11_slices 2 (some .int) 1 := ⟨zw_725, zw_1, by decide +kernel, by decide⟩
theorem zy_X11_stretch : zq_y yX11_stretch cX11_stretch 5 (some .int) 0 := ⟨zw_783, zw_1, by decide +kernel, by decide⟩
theorem zy_X11_supper : zq_y yX11_supper cX11_supper 5 (some .int) 0 := ⟨zw_631, zw_1, by decide +kernel, by decide⟩
theorem zy_X11_suppers : zq_y yX11_suppers cX11_suppers 6 (some .int) 2 := ⟨zw_978, zw_1, by decide +kernel, by decide⟩
theorem zy_X11_takeBack : zq_y yX11_takeBack cX11_takeBack 6 (some .int) 2 := ⟨zw_619, zw_1, by decide +kernel, by decide⟩
theorem zy_X11_taste : zq_y yX11_taste cX11_taste 5 (some .int) 3 := ⟨zw_561, zw_1, by decide +kernel, by decide⟩
theorem zy_X11_tastes : zq_y yX11_tastes cX11_tastes 4 (some .int) 1 := ⟨zw_890, zw_1, by decide +kernel, by decide⟩
theorem zy_X11_trade : zq_y yX11_trade cX11_trade 8 (some .int) 2 := ⟨zw_717, zw_1, by decide +kernel, by decide⟩
theorem zy_X11_undo : zq_y yX11_undo cX11_undo 1 (some .int) 0 := ⟨zw_665, zw_1, by decide +kernel, by decide⟩
theorem zy_X11_wide : zq_y yX11_wide cX11_wide 7 (some .int) 2 := ⟨zw_974, zw_1, by decide +kernel, by decide⟩
theorem zy_X11_worth : zq_y yX11_worth cX11_worth 3 (some .int) 2 := ⟨zw_545, zw_1, by decide +kernel, by decide⟩
theorem zy_X11_worthHeld : zq_y yX11_worthHeld cX11_worthHeld 5 (some .int) 2 := ⟨zw_677, zw_1, by decide +kernel, by decide⟩
theorem zy_X11_wronged : zq_y yX11_wronged cX11_wronged 4 (some .int) 0 := ⟨zw_685, zw_1, by decide +kernel, by decide⟩
theorem zy_X0_holderOf : zq_y yX0_holderOf cX0_holderOf 2 (some .int) 1 := ⟨zw_590, zw_6, by decide +kernel, by decide⟩
theorem zy_X0_put : zq_y yX0_put cX0_put 5 none 2 := ⟨zw_595, zw_6, by decide +kernel, by decide⟩
theorem zy_X0_remember : zq_y yX0_remember cX0_remember 3 none 1 := ⟨zw_608, zw_6, by decide +kernel, by decide⟩
theorem zy_X0_restore : zq_y yX0_restore cX0_restore 2 (some .boolean) 1 := ⟨zw_995, zw_6, by decide +kernel, by decide⟩
theorem zy_X0_startAnew : zq_y yX0_startAnew cX0_startAnew 1 none 0 := ⟨zw_426, zw_6, by decide +kernel, by decide⟩
theorem zy_X0_stepBack : zq_y yX0_stepBack cX0_stepBack 1 (some .int) 0 := ⟨zw_669, zw_6, by decide +kernel, by decide⟩
theorem zy_X0_store : zq_y yX0_store cX0_store 2 (some .boolean) 1 := ⟨zw_987, zw_6, by decide +kernel, by decide⟩
theorem zy_X1_ask : zq_y yX1_ask cX1_ask 5 (some .int) 4 := ⟨zw_902, zw_7, by decide +kernel, by decide⟩
theorem zy_X1_countFitting : zq_y yX1_countFitting cX1_countFitting 8 (some .int) 3 := ⟨zw_894, zw_7, by decide +kernel, by decide⟩
theorem zy_X1_countPairs : zq_y yX1_countPairs cX1_countPairs 6 none 3 := ⟨zw_912, zw_7, by decide +kernel, by decide⟩
theorem zy_X1_countThisTime : zq_y yX1_countThisTime cX1_countThisTime 4 none 1 := ⟨zw_917, zw_7, by decide +kernel, by decide⟩
theorem zy_X1_fits : zq_y yX1_fits cX1_fits 7 (some .boolean) 4 := ⟨zw_898, zw_7, by decide +kernel, by decide⟩
theorem zy_X1_leftAtMost : zq_y yX1_leftAtMost cX1_leftAtMost 3 (some .int) 2 := ⟨zw_921, zw_7, by decide +kernel, by decide⟩
theorem zy_X1_tell : zq_y yX1_tell cX1_tell 3 (some .int) 2 := ⟨zw_882, zw_7, by decide +kernel, by decide⟩
theorem zy_X2_allCrumbs : zq_y yX2_allCrumbs cX2_allCrumbs 3 (some .int) 0 := ⟨zw_948, zw_11, by decide +kernel, by decide⟩
theorem zy_X2_read : zq_y yX2_read cX2_read 4 (some .boolean) 1 := ⟨zw_387, zw_11, by decide +kernel, by decide⟩
theorem zy_X3_admit : zq_y yX3_admit cX3_admit 3 none 1 := ⟨zw_471, zw_4, by decide +kernel, by decide⟩
theorem zy_X3_allChances : zq_y yX3_allChances cX3_allChances 4 (some .long) 0 := ⟨zw_969, zw_4, by decide +kernel, by decide⟩
theorem zy_X3_allDeserts : zq_y yX3_allDeserts cX3_allDeserts 1 (some .int) 0 := ⟨zw_497, zw_4, by decide +kernel, by decide⟩
theorem zy_X3_canPart : zq_y yX3_canPart cX3_canPart 4 (some .boolean) 2 := ⟨zw_952, zw_4, by decide +kernel, by decide⟩
theorem zy_X3_chanceOf : zq_y yX3_chanceOf cX3_chanceOf 9 (some .long) 2 := ⟨zw_965, zw_4, by decide +kernel, by decide⟩
theorem zy_X3_desertsOf : zq_y yX3_desertsOf cX3_desertsOf 4 (some .int) 1 := ⟨zw_501, zw_4, by decide +kernel, by decide⟩
theorem zy_X3_judge : zq_y yX3_judge cX3_judge 2 none 0 := ⟨zw_492, zw_4, by decide +kernel, by decide⟩
theorem zy_X3_readDeed : zq_y yX3_readDeed cX3_readDeed 6 (some .boolean) 1 := ⟨zw_486, zw_4, by decide +kernel, by decide⟩
theorem zy_X3_readDeeds : zq_y yX3_readDeeds cX3_readDeeds 3 (some .boolean) 1 := ⟨zw_479, zw_4, by decide +kernel, by decide⟩
theorem zy_X3_readLines : zq_y yX3_readLines cX3_readLines 5 (some .int) 1 := ⟨zw_463, zw_4, by decide +kernel, by decide⟩
theorem zy_X3_tasteOf : zq_y yX3_tasteOf cX3_tasteOf 3 (some .int) 2 := ⟨zw_565, zw_4, by decide +kernel, by decide⟩
theorem zy_X4_addMember : zq_y yX4_addMember cX4_addMember 6 none 3 := ⟨zw_746, zw_8, by decide +kernel, by decide⟩
theorem zy_X4_canServe : zq_y yX4_canServe cX4_canServe 2 (some .boolean) 1 := ⟨zw_764, zw_8, by decide +kernel, by decide⟩
theorem zy_X4_findOrder : zq_y yX4_findOrder cX4_findOrder 7 (some .boolean) 4 := ⟨zw_772, zw_8, by decide +kernel, by decide⟩
theorem zy_X4_reached : zq_y yX4_reached cX4_reached 3 (some .int) 2 := ⟨zw_759, zw_8, by decide +kernel, by decide⟩
theorem zy_X4_readClaims : zq_y yX4_readClaims cX4_readClaims 6 (some .boolean) 2 := ⟨zw_930, zw_8, by decide +kernel, by decide⟩
theorem zy_X4_shortest : zq_y yX4_shortest cX4_shortest 5 (some .int) 3 := ⟨zw_754, zw_8, by decide +kernel, by decide⟩
theorem zy_X4_spread : zq_y yX4_spread cX4_spread 5 none 1 := ⟨zw_750, zw_8, by decide +kernel, by decide⟩
theorem zy_X4_start : zq_y yX4_start cX4_start 2 none 1 := ⟨zw_741, zw_8, by decide +kernel, by decide⟩
theorem zy_X4_tellOrder : zq_y yX4_tellOrder cX4_tellOrder 8 none 2 := ⟨zw_768, zw_8, by decide +kernel, by decide⟩
theorem zy_X5_add : zq_y yX5_add cX5_add 3 none 1 := ⟨zw_657, zw_3, by decide +kernel, by decide⟩
theorem zy_X5_addFraction : zq_y yX5_addFraction cX5_addFraction 12 none 2 := ⟨zw_708, zw_3, by decide +kernel, by decide⟩
theorem zy_X5_clear : zq_y yX5_clear cX5_clear 1 none 0 := ⟨zw_653, zw_3, by decide +kernel, by decide⟩
theorem zy_X6_addStep : zq_y yX6_addStep cX6_addStep 2 none 1 := ⟨zw_525, zw_12, by decide +kernel, by decide⟩
theorem zy_X6_hold : zq_y yX6_hold cX6_hold 2 none 1 := ⟨zw_529, zw_12, by decide +kernel, by decide⟩
theorem zy_X6_isLetter : zq_y yX6_isLetter cX6_isLetter 1 (some .boolean) 1 := ⟨zw_532, zw_12, by decide +kernel, by decide⟩
theorem zy_X6_joined : zq_y yX6_joined cX6_joined 3 (some .int) 3 := ⟨zw_451, zw_12, by decide +kernel, by decide⟩
theorem zy_X6_read : zq_y yX6_read cX6_read 4 (some .boolean) 1 := ⟨zw_509, zw_12, by decide +kernel, by decide⟩
theorem zy_X6_readJoint : zq_y yX6_readJoint cX6_readJoint 4 (some .boolean) 1 := ⟨zw_537, zw_12, by decide +kernel, by decide⟩
theorem zy_X6_readThing : zq_y yX6_readThing cX6_readThing 4 (some .boolean) 1 := ⟨zw_516, zw_12, by decide +kernel, by decide⟩
theorem zy_X6_release : zq_y yX6_release cX6_release 2 none 1 := ⟨zw_541, zw_12, by decide +kernel, by decide⟩
theorem zy_X6_strengthOf : zq_y yX6_strengthOf cX6_strengthOf 1 (some .int) 1 := ⟨zw_445, zw_12, by decide +kernel, by decide⟩
theorem zy_X6_valueOf : zq_y yX6_valueOf cX6_valueOf 6 (some .int) 6 := ⟨zw_448, zw_12, by decide +kernel, by decide⟩
theorem zy_X6_walk : zq_y yX6_walk cX6_walk 10 (some .int) 5 := ⟨zw_442, zw_12, by decide +kernel, by decide⟩
theorem zy_X6_worthOf : zq_y yX6_worthOf cX6_worthOf 7 (some .int) 5 := ⟨zw_438, zw_12, by decide +kernel, by decide⟩
theorem zy_X7_isCalmWith : zq_y yX7_isCalmWith cX7_isCalmWith 5 (some .boolean) 3 := ⟨zw_826, zw_9, by decide +kernel, by decide⟩
theorem zy_X7_isLess : zq_y yX7_isLess cX7_isLess 2 (some .boolean) 0 := ⟨zw_821, zw_9, by decide +kernel, by decide⟩
theorem zy_X7_note : zq_y yX7_note cX7_note 1 none 0 := ⟨zw_817, zw_9, by decide +kernel, by decide⟩
theorem zy_X7_othersAreCalm : zq_y yX7_othersAreCalm cX7_othersAreCalm 4 (some .boolean) 2 := ⟨zw_812, zw_9, by decide +kernel, by decide⟩
theorem zy_X7_part : zq_y yX7_part cX7_part 7 none 4 := ⟨zw_808, zw_9, by decide +kernel, by decide⟩
theorem zy_X7_prefers : zq_y yX7_prefers cX7_prefers 4 (some .boolean) 3 := ⟨zw_830, zw_9, by decide +kernel, by decide⟩
theorem zy_X7_ways : zq_y yX7_ways cX7_ways 5 (some .int) 3 := ⟨zw_803, zw_9, by decide +kernel, by decide⟩
theorem zy_X8_addFour : zq_y yX8_addFour cX8_addFour 3 (some .int) 1 := ⟨zw_371, zw_2, by decide +kernel, by decide⟩
theorem zy_X8_clear : zq_y yX8_clear cX8_clear 1 none 0 := ⟨zw_418, zw_2, by decide +kernel, by decide⟩
theorem zy_X8_fault : zq_y yX8_fault cX8_fault 1 (some .int) 0 := ⟨zw_422, zw_2, by decide +kernel, by decide⟩
theorem zy_X8_isFinished : zq_y yX8_isFinished cX8_isFinished 1 (some .boolean) 0 := ⟨zw_398, zw_2, by decide +kernel, by decide⟩
theorem zy_X8_next : zq_y yX8_next cX8_next 1 (some .int) 0 := ⟨zw_406, zw_2, by decide +kernel, by decide⟩
theorem zy_X8_shorten : zq_y yX8_shorten cX8_shorten 2 (some .boolean) 1 := ⟨zw_379, zw_2, by decide +kernel, by decide⟩
theorem zy_X8_skip : zq_y yX8_skip cX8_skip 2 (some .boolean) 1 := ⟨zw_414, zw_2, by decide +kernel, by decide⟩
theorem zy_X8_start : zq_y yX8_start cX8_start 2 none 1 := ⟨zw_391, zw_2, by decide +kernel, by decide⟩
theorem zy_X8_takeDigit : zq_y yX8_takeDigit cX8_takeDigit 3 (some .int) 1 := ⟨zw_402, zw_2, by decide +kernel, by decide⟩
theorem zy_X8_takeLetter : zq_y yX8_takeLetter cX8_takeLetter 3 (some .int) 1 := ⟨zw_410, zw_2, by decide +kernel, by decide⟩
theorem zy_X8_takeNumber : zq_y yX8_takeNumber cX8_takeNumber 5 (some .int) 1 := ⟨zw_520, zw_2, by decide +kernel, by decide⟩
theorem zy_X9_favourite : zq_y yX9_favourite cX9_favourite 6 (some .int) 3 := ⟨zw_864, zw_10, by decide +kernel, by decide⟩
theorem zy_X9_read : zq_y yX9_read cX9_read 4 (some .boolean) 2 := ⟨zw_847, zw_10, by decide +kernel, by decide⟩
theorem zy_X9_startTaking : zq_y yX9_startTaking cX9_startTaking 2 none 1 := ⟨zw_854, zw_10, by decide +kernel, by decide⟩
theorem zy_X9_takeAll : zq_y yX9_takeAll cX9_takeAll 7 (some .int) 1 := ⟨zw_860, zw_10, by decide +kernel, by decide⟩
theorem zy_X10_between : zq_y yX10_between cX10_between 4 (some .int) 3 := ⟨zw_600, zw_5, by decide +kernel, by decide⟩
theorem zy_X10_of : zq_y yX10_of cX10_of 3 (some .int) 2 := ⟨zw_557, zw_5, by decide +kernel, by decide⟩
theorem zy_X10_renew : zq_y yX10_renew cX10_renew 8 none 3 := ⟨zw_434, zw_5, by decide +kernel, by decide⟩
theorem zy_X10_whole : zq_y yX10_whole cX10_whole 2 (some .int) 1 := ⟨zw_693, zw_5, by decide +kernel, by decide⟩
theorem zy_X12_adds : zq_y yX12_adds cX12_adds 3 (some .int) 1 := ⟨zw_1544, zw_13, by decide +kernel, by decide⟩
theorem zy_X12_again : zq_y yX12_again cX12_again 3 (some .boolean) 1 := ⟨zw_1776, zw_13, by decide +kernel, by decide⟩
theorem zy_X12_all : zq_y yX12_all cX12_all 1 (some .int) 0 := ⟨zw_1613, zw_13, by decide +kernel, by decide⟩
theorem zy_X12_allDeserts : zq_y yX12_allDeserts cX12_allDeserts 3 (some .int) 0 := ⟨zw_1428, zw_13, by decide +kernel, by decide⟩
theorem zy_X12_among : zq_y yX12_among cX12_among 3 (some .int) 1 := ⟨zw_1327, zw_13, by decide +kernel, by decide⟩
theorem zy_X12_ate : zq_y yX12_ate cX12_ate 6 (some .int) 1 := ⟨zw_1744, zw_13, by decide +kernel, by decide⟩
theorem zy_X12_back : zq_y yX12_back cX12_back 3 (some .int) 2 := ⟨zw_1548, zw_13, by decide +kernel, by decide⟩
theorem zy_X12_backs : zq_y yX12_backs cX12_backs 6 (some .int) 2 := ⟨zw_1552, zw_13, by decide +kernel, by decide⟩
theorem zy_X12_begins : zq_y yX12_begins cX12_begins 3 (some .int) 1 := ⟨zw_1321, zw_13, by decide +kernel, by decide⟩
theorem zy_X12_bets : zq_y yX12_bets cX12_bets 7 none 2 := ⟨zw_1758, zw_13, by decide +kernel, by decide⟩
theorem zy_X12_byturns : zq_y yX12_byturns cX12_byturns 3 (some .int) 0 := ⟨zw_1683, zw_13, by decide +kernel, by decide⟩
theorem zy_X12_calm : zq_y yX12_calm cX12_calm 2 (some .int) 0 := ⟨zw_1662, zw_13, by decide +kernel, by decide⟩
theorem zy_X12_calmsFrom : zq_y yX12_calmsFrom cX12_calmsFrom 4 none 2 := ⟨zw_1666, zw_13, by decide +kernel, by decide⟩
theorem zy_X12_canServe : zq_y yX12_canServe cX12_canServe 3 (some .boolean) 2 := ⟨zw_1617, zw_13, by decide +kernel, by decide⟩
theorem zy_X12_cell : zq_y yX12_cell cX12_cell 3 (some .int) 2 := ⟨zw_1452, zw_13, by decide +kernel, by decide⟩
theorem zy_X12_chose : zq_y yX12_chose cX12_chose 3 (some .int) 2 := ⟨zw_1703, zw_13, by decide +kernel, by decide⟩
theorem zy_X12_claims : zq_y yX12_claims cX12_claims 6 (some .int) 0 := ⟨zw_1723, zw_13, by decide +kernel, by decide⟩
theorem zy_X12_codes : zq_y yX12_codes cX12_codes 2 none 1 := ⟨zw_1444, zw_13, by decide +kernel, by decide⟩
theorem zy_X12_common : zq_y yX12_common cX12_common 4 (some .long) 2 := ⟨zw_1597, zw_13, by decide +kernel, by decide⟩
theorem zy_X12_count : zq_y yX12_count cX12_count 2 (some .int) 1 := ⟨zw_1780, zw_13, by decide +kernel, by decide⟩
theorem zy_X12_counts : zq_y yX12_counts cX12_counts 2 (some .int) 1 := ⟨zw_1540, zw_13, by decide +kernel, by decide⟩
theorem zy_X12_crumbsAll : zq_y yX12_crumbsAll cX12_crumbsAll 3 (some .int) 0 := ⟨zw_1740, zw_13, by decide +kernel, by decide⟩
theorem zy_X12_cuts : zq_y yX12_cuts cX12_cuts 9 (some .int) 2 := ⟨zw_1678, zw_13, by decide +kernel, by decide⟩
theorem zy_X12_deeds : zq_y yX12_deeds cX12_deeds 6 (some .int) 0 := ⟨zw_1413, zw_13, by decide +kernel, by decide⟩
theorem zy_X12_desertsOf : zq_y yX12_desertsOf cX12_desertsOf 4 (some .int) 1 := ⟨zw_1749, zw_13, by decide +kernel, by decide⟩
theorem zy_X12_does : zq_y yX12_does cX12_does 3 (some .boolean) 1 := ⟨zw_1573, zw_13, by decide +kernel, by decide⟩
theorem zy_X12_eats : zq_y yX12_eats cX12_eats 2 (some .int) 1 := ⟨zw_1560, zw_13, by decide +kernel, by decide⟩
theorem zy_X12_end : zq_y yX12_end cX12_end 2 (some .boolean) 1 := ⟨zw_1310, zw_13, by decide +kernel, by decide⟩
theorem zy_X12_endFor : zq_y yX12_endFor cX12_endFor 7 (some .int) 3 := ⟨zw_1632, zw_13, by decide +kernel, by decide⟩
theorem zy_X12_enough : zq_y yX12_enough cX12_enough 5 (some .int) 2 := ⟨zw_1753, zw_13, by decide +kernel, by decide⟩
theorem zy_X12_enters : zq_y yX12_enters cX12_enters 3 none 1 := ⟨zw_1577, zw_13, by decide +kernel, by decide⟩
theorem zy_X12_envy : zq_y yX12_envy cX12_envy 4 (some .int) 0 := ⟨zw_1585, zw_13, by decide +kernel, by decide⟩
theorem zy_X12_faultOf : zq_y yX12_faultOf cX12_faultOf 5 (some .int) 3 := ⟨zw_1391, zw_13, by decide +kernel, by decide⟩
theorem zy_X12_fitsBy : zq_y yX12_fitsBy cX12_fitsBy 7 (some .boolean) 4 := ⟨zw_1715, zw_13, by decide +kernel, by decide⟩
theorem zy_X12_flag : zq_y yX12_flag cX12_flag 1 (some .int) 1 := ⟨zw_1382, zw_13, by decide +kernel, by decide⟩
theorem zy_X12_forget : zq_y yX12_forget cX12_forget 2 (some .int) 0 := ⟨zw_1707, zw_13, by decide +kernel, by decide⟩
theorem zy_X12_give : zq_y yX12_give cX12_give 4 (some .int) 3 := ⟨zw_1524, zw_13, by decide +kernel, by decide⟩
theorem zy_X12_gives : zq_y yX12_gives cX12_gives 6 (some .int) 3 := ⟨zw_1532, zw_13, by decide +kernel, by decide⟩
theorem zy_X12_goesByTurns : zq_y yX12_goesByTurns cX12_goesByTurns 6 none 0 := ⟨zw_1695, zw_13, by decide +kernel, by decide⟩
theorem zy_X12_goesTo : zq_y yX12_goesTo cX12_goesTo 5 none 3 := ⟨zw_1674, zw_13, by decide +kernel, by decide⟩
theorem zy_X12_guest : zq_y yX12_guest cX12_guest 3 (some .int) 2 := ⟨zw_1465, zw_13, by decide +kernel, by decide⟩
theorem zy_X12_guests : zq_y yX12_guests cX12_guests 7 (some .int) 0 := ⟨zw_1395, zw_13, by decide +kernel, by decide⟩
theorem zy_X12_happiest : zq_y yX12_happiest cX12_happiest 11 (some .int) 0 := ⟨zw_1594, zw_13, by decide +kernel, by decide⟩
theorem zy_X12_has : zq_y yX12_has cX12_has 2 (some .boolean) 2 := ⟨zw_1628, zw_13, by decide +kernel, by decide⟩
theorem zy_X12_held : zq_y yX12_held cX12_held 5 (some .int) 2 := ⟨zw_1497, zw_13, by decide +kernel, by decide⟩
theorem zy_X12_holds : zq_y yX12_holds cX12_holds 4 (some .int) 1 := ⟨zw_1493, zw_13, by decide +kernel, by decide⟩
theorem zy_X12_in : zq_y yX12_in cX12_in 6 (some .boolean) 3 := ⟨zw_1313, zw_13, by decide +kernel, by decide⟩
theorem zy_X12_isCalm : zq_y yX12_isCalm cX12_isCalm 4 (some .boolean) 0 := ⟨zw_1670, zw_13, by decide +kernel, by decide⟩
theorem zy_X12_isCell : zq_y yX12_isCell cX12_isCell 2 (some .boolean) 1 := ⟨zw_1456, zw_13, by decide +kernel, by decide⟩
theorem zy_X12_isDigit : zq_y yX12_isDigit cX12_isDigit 1 (some .boolean) 0 := ⟨zw_1407, zw_13, by decide +kernel, by decide⟩
theorem zy_X12_isDue : zq_y yX12_isDue cX12_isDue 5 (some .boolean) 3 := ⟨zw_1501, zw_13, by decide +kernel, by decide⟩
theorem zy_X12_isGuest : zq_y yX12_isGuest cX12_isGuest 2 (some .boolean) 1 := ⟨zw_1469, zw_13, by decide +kernel, by decide⟩
theorem zy_X12_isSlice : zq_y yX12_isSlice cX12_isSlice 3 (some .boolean) 2 := ⟨zw_1536, zw_13, by decide +kernel, by decide⟩
theorem zy_X12_isTurnLess : zq_y yX12_isTurnLess cX12_isTurnLess 3 (some .boolean) 1 := ⟨zw_1625, zw_13, by decide +kernel, by decide⟩
theorem zy_X12_keep : zq_y yX12_keep cX12_keep 3 (some .boolean) 1 := ⟨zw_1772, zw_13, by decide +kernel, by decide⟩
theorem zy_X12_laysTable : zq_y yX12_laysTable cX12_laysTable 3 none 0 := ⟨zw_1474, zw_13, by decide +kernel, by decide⟩
theorem zy_X12_letter : zq_y yX12_letter cX12_letter 2 (some .int) 1 := ⟨zw_1422, zw_13, by decide +kernel, by decide⟩
theorem zy_X12_lies : zq_y yX12_lies cX12_lies 11 (some .int) 1 := ⟨zw_1699, zw_13, by decide +kernel, by decide⟩
theorem zy_X12_loaf : zq_y yX12_loaf cX12_loaf 5 (some .int) 0 := ⟨zw_1317, zw_13, by decide +kernel, by decide⟩
theorem zy_X12_meets : zq_y yX12_meets cX12_meets 6 none 2 := ⟨zw_1727, zw_13, by decide +kernel, by decide⟩
theorem zy_X12_mouse : zq_y yX12_mouse cX12_mouse 2 (some .int) 1 := ⟨zw_1556, zw_13, by decide +kernel, by decide⟩
theorem zy_X12_nothing : zq_y yX12_nothing cX12_nothing 8 (some .int) 0 := ⟨zw_1736, zw_13, by decide +kernel, by decide⟩
theorem zy_X12_number : zq_y yX12_number cX12_number 4 (some .int) 1 := ⟨zw_1403, zw_13, by decide +kernel, by decide⟩
theorem zy_X12_offer : zq_y yX12_offer cX12_offer 7 (some .int) 1 := ⟨zw_1719, zw_13, by decide +kernel, by decide⟩
theorem zy_X12_parts : zq_y yX12_parts cX12_parts 4 (some .int) 2 := ⟨zw_1652, zw_13, by decide +kernel, by decide⟩
theorem zy_X12_partsOn : zq_y yX12_partsOn cX12_partsOn 8 none 5 := ⟨zw_1658, zw_13, by decide +kernel, by decide⟩
theorem zy_X12_picksAsWorth : zq_y yX12_picksAsWorth cX12_picksAsWorth 2 none 0 := ⟨zw_1691, zw_13, by decide +kernel, by decide⟩
theorem zy_X12_pieces : zq_y yX12_pieces cX12_pieces 7 (some .int) 1 := ⟨zw_1601, zw_13, by decide +kernel, by decide⟩
theorem zy_X12_putsBy : zq_y yX12_putsBy cX12_putsBy 2 none 0 := ⟨zw_1528, zw_13, by decide +kernel, by decide⟩
theorem zy_X12_quarrel : zq_y yX12_quarrel cX12_quarrel 4 (some .int) 0 := ⟨zw_1636, zw_13, by decide +kernel, by decide⟩
theorem zy_X12_readsAct : zq_y yX12_readsAct cX12_readsAct 2 (some .boolean) 0 := ⟨zw_1568, zw_13, by decide +kernel, by decide⟩
theorem zy_X12_readsDeed : zq_y yX12_readsDeed cX12_readsDeed 5 (some .boolean) 0 := ⟨zw_1417, zw_13, by decide +kernel, by decide⟩
theorem zy_X12_readsGuest : zq_y yX12_readsGuest cX12_readsGuest 3 (some .boolean) 0 := ⟨zw_1399, zw_13, by decide +kernel, by decide⟩
theorem zy_X12_readsRank : zq_y yX12_readsRank cX12_readsRank 4 (some .boolean) 1 := ⟨zw_1436, zw_13, by decide +kernel, by decide⟩
theorem zy_X12_readsThing : zq_y yX12_readsThing cX12_readsThing 2 (some .boolean) 0 := ⟨zw_1440, zw_13, by decide +kernel, by decide⟩
theorem zy_X12_readsTurns : zq_y yX12_readsTurns cX12_readsTurns 3 (some .int) 0 := ⟨zw_1687, zw_13, by decide +kernel, by decide⟩
theorem zy_X12_refuse : zq_y yX12_refuse cX12_refuse 1 (some .int) 0 := ⟨zw_1461, zw_13, by decide +kernel, by decide⟩
theorem zy_X12_richest : zq_y yX12_richest cX12_richest 5 (some .int) 2 := ⟨zw_1644, zw_13, by decide +kernel, by decide⟩
theorem zy_X12_row : zq_y yX12_row cX12_row 2 (some .long) 1 := ⟨zw_1784, zw_13, by decide +kernel, by decide⟩
theorem zy_X12_rule : zq_y yX12_rule cX12_rule 5 (some .int) 0 := ⟨zw_1432, zw_13, by decide +kernel, by decide⟩
theorem zy_X12_ruled : zq_y yX12_ruled cX12_ruled 4 (some .int) 0 := ⟨zw_1486, zw_13, by decide +kernel, by decide⟩
theorem zy_X12_seen : zq_y yX12_seen cX12_seen 3 (some .int) 2 := ⟨zw_1581, zw_13, by decide +kernel, by decide⟩
theorem zy_X12_serves : zq_y yX12_serves cX12_serves 7 none 4 := ⟨zw_1621, zw_13, by decide +kernel, by decide⟩
theorem zy_X12_settle : zq_y yX12_settle cX12_settle 8 (some .int) 2 := ⟨zw_1731, zw_13, by decide +kernel, by decide⟩
theorem zy_X12_sheet : zq_y yX12_sheet cX12_sheet 9 (some .int) 4 := ⟨zw_1516, zw_13, by decide +kernel, by decide⟩
theorem zy_X12_sign : zq_y yX12_sign cX12_sign 3 (some .int) 1 := ⟨zw_1306, zw_13, by decide +kernel, by decide⟩
theorem zy_X12_sliceOf : zq_y yX12_sliceOf cX12_sliceOf 6 (some .int) 3 := ⟨zw_1648, zw_13, by decide +kernel, by decide⟩
theorem zy_X12_slices : zq_y yX12_slices cX12_slices 3 (some .int) 1 := ⟨zw_1609, zw_13, by decide +kernel, by decide⟩
theorem zy_X12_stretch : zq_y yX12_stretch cX12_stretch 2 (some .int) 0 := ⟨zw_1640, zw_13, by decide +kernel, by decide⟩
theorem zy_X12_supper : zq_y yX12_supper cX12_supper 6 (some .int) 0 := ⟨zw_1564, zw_13, by decide +kernel, by decide⟩
theorem zy_X12_suppers : zq_y yX12_suppers cX12_suppers 6 (some .int) 2 := ⟨zw_1766, zw_13, by decide +kernel, by decide⟩
theorem zy_X12_takes : zq_y yX12_takes cX12_takes 3 (some .boolean) 1 := ⟨zw_1387, zw_13, by decide +kernel, by decide⟩
theorem zy_X12_takesOf : zq_y yX12_takesOf cX12_takesOf 3 (some .int) 1 := ⟨zw_1379, zw_13, by decide +kernel, by decide⟩
theorem zy_X12_taste : zq_y yX12_taste cX12_taste 5 (some .int) 3 := ⟨zw_1510, zw_13, by decide +kernel, by decide⟩
theorem zy_X12_tastes : zq_y yX12_tastes cX12_tastes 7 (some .int) 1 := ⟨zw_1711, zw_13, by decide +kernel, by decide⟩
theorem zy_X12_thrown : zq_y yX12_thrown cX12_thrown 1 (some .int) 0 := ⟨zw_1302, zw_13, by decide +kernel, by decide⟩
theorem zy_X12_trade : zq_y yX12_trade cX12_trade 11 (some .int) 2 := ⟨zw_1605, zw_13, by decide +kernel, by decide⟩
theorem zy_X12_undo : zq_y yX12_undo cX12_undo 2 (some .int) 0 := ⟨zw_1520, zw_13, by decide +kernel, by decide⟩
theorem zy_X12_wide : zq_y yX12_wide cX12_wide 7 (some .int) 2 := ⟨zw_1762, zw_13, by decide +kernel, by decide⟩
theorem zy_X12_worked : zq_y yX12_worked cX12_worked 3 (some .int) 3 := ⟨zw_1489, zw_13, by decide +kernel, by decide⟩
theorem zy_X12_worth : zq_y yX12_worth cX12_worth 3 (some .int) 2 := ⟨zw_1506, zw_13, by decide +kernel, by decide⟩
theorem zy_X12_worthBy : zq_y yX12_worthBy cX12_worthBy 6 (some .int) 5 := ⟨zw_1482, zw_13, by decide +kernel, by decide⟩
theorem zy_X12_worthOf : zq_y yX12_worthOf cX12_worthOf 3 (some .int) 2 := ⟨zw_1478, zw_13, by decide +kernel, by decide⟩
theorem zy_X12_wronged : zq_y yX12_wronged cX12_wronged 4 (some .int) 0 := ⟨zw_1589, zw_13, by decide +kernel, by decide⟩
theorem zy_J6_bitCount_0f7a4 : zq_y yJ6_bitCount_0f7a4 cJ6_bitCount_0f7a4 1 (some .int) 1 := ⟨zw_697, zw_25, by decide +kernel, by decide⟩
theorem zy_J0_charAt_5068e : zq_y yJ0_charAt_5068e cJ0_charAt_5068e 2 (some .char) 1 := ⟨zw_1341, zw_15, by decide +kernel, by decide⟩
theorem zy_J0_checkIndex_df160 : zq_y yJ0_checkIndex_df160 cJ0_checkIndex_df160 2 none 2 := ⟨zw_1351, zw_15, by decide +kernel, by decide⟩
theorem zy_J0_coder_7d493 : zq_y yJ0_coder_7d493 cJ0_coder_7d493 1 (some .byte) 0 := ⟨zw_1335, zw_15, by decide +kernel, by decide⟩
theorem zy_J0_isLatin1_aae02 : zq_y yJ0_isLatin1_aae02 cJ0_isLatin1_aae02 1 (some .boolean) 0 := ⟨zw_1345, zw_15, by decide +kernel, by decide⟩
theorem zy_J0_length_8abf5 : zq_y yJ0_length_8abf5 cJ0_length_8abf5 1 (some .int) 0 := ⟨zw_1331, zw_15, by decide +kernel, by decide⟩
theorem zy_J1_charAt_3b067 : zq_y yJ1_charAt_3b067 cJ1_charAt_3b067 2 (some .char) 2 := ⟨zw_1348, zw_16, by decide +kernel, by decide⟩
theorem zy_J2_charAt_3b067 : zq_y yJ2_charAt_3b067 cJ2_charAt_3b067 2 (some .char) 2 := ⟨zw_1359, zw_18, by decide +kernel, by decide⟩
theorem zy_J7_fill_53178 : zq_y yJ7_fill_53178 cJ7_fill_53178 4 none 2 := ⟨zw_482, zw_19, by decide +kernel, by decide⟩
theorem zy_J3_checkIndex_8e157 : zq_y yJ3_checkIndex_8e157 cJ3_checkIndex_8e157 3 (some .int) 3 := ⟨zw_1356, zw_17, by decide +kernel, by decide⟩
theorem zs9_X11_areGuests : Cond.selects yX11_areGuests.cls yX11_areGuests yX11_areGuests ∈ zq_tb := zq_inP (i := 22) (q := (yX11_areGuests, 16)) (by decide +kernel) rfl rfl
theorem zs9_X11_bestOfLeasts : Cond.selects yX11_bestOfLeasts.cls yX11_bestOfLeasts yX11_bestOfLeasts ∈ zq_tb := zq_inP (i := 28) (q := (yX11_bestOfLeasts, 16)) (by decide +kernel) rfl rfl
theorem zs9_X11_cellsWith : Cond.selects yX11_cellsWith.cls yX11_cellsWith yX11_cellsWith ∈ zq_tb := zq_inP (i := 18) (q := (yX11_cellsWith, 16)) (by decide +kernel) rfl rfl
theorem zs9_X11_doAct : Cond.selects yX11_doAct.cls yX11_doAct yX11_doAct ∈ zq_tb := zq_inP (i := 17) (q := (yX11_doAct, 16)) (by decide +kernel) rfl rfl
theorem zs9_X11_everyone : Cond.selects yX11_everyone.cls yX11_everyone yX11_everyone ∈ zq_tb := zq_inP (i := 23) (q := (yX11_everyone, 16)) (by decide +kernel) rfl rfl
theorem zs9_X11_feedMouse : Cond.selects yX11_feedMouse.cls yX11_feedMouse yX11_feedMouse ∈ zq_tb := zq_inP (i := 14) (q := (yX11_feedMouse, 16)) (by decide +kernel) rfl rfl
theorem zs9_X11_giveSlice : Cond.selects yX11_giveSlice.cls yX11_giveSlice yX11_giveSlice ∈ zq_tb := zq_inP (i := 10) (q := (yX11_giveSlice, 16)) (by decide +kernel) rfl rfl
theorem zs9_X11_hasByLie : Cond.selects yX11_hasByLie.cls yX11_hasByLie yX11_hasByLie ∈ zq_tb := zq_inP (i := 36) (q := (yX11_hasByLie, 16)) (by decide +kernel) rfl rfl
theorem zs9_X11_hasDue : Cond.selects yX11_hasDue.cls yX11_hasDue yX11_hasDue ∈ zq_tb := zq_inP (i := 20) (q := (yX11_hasDue, 16)) (by decide +kernel) rfl rfl
theorem zs9_X11_isCell : Cond.selects yX11_isCell.cls yX11_isCell yX11_isCell ∈ zq_tb := zq_inP (i := 9) (q := (yX11_isCell, 16)) (by decide +kernel) rfl rfl
theorem zs9_X11_isGuest : Cond.selects yX11_isGuest.cls yX11_isGuest yX11_isGuest ∈ zq_tb := zq_inP (i := 8) (q := (yX11_isGuest, 16)) (by decide +kernel) rfl rfl
theorem zs9_X11_isSlice : Cond.selects yX11_isSlice.cls yX11_isSlice yX11_isSlice ∈ zq_tb := zq_inP (i := 11) (q := (yX11_isSlice, 16)) (by decide +kernel) rfl rfl
theorem zs9_X11_jointGain : Cond.selects yX11_jointGain.cls yX11_jointGain yX11_jointGain ∈ zq_tb := zq_inP (i := 21) (q := (yX11_jointGain, 16)) (by decide +kernel) rfl rfl
theorem zs9_X11_placeGuests : Cond.selects yX11_placeGuests.cls yX11_placeGuests yX11_placeGuests ∈ zq_tb := zq_inP (i := 24) (q := (yX11_placeGuests, 16)) (by decide +kernel) rfl rfl
theorem zs9_X11_readAct : Cond.selects yX11_readAct.cls yX11_readAct yX11_readAct ∈ zq_tb := zq_inP (i := 16) (q := (yX11_readAct, 16)) (by decide +kernel) rfl rfl
theorem zs9_X11_readActs : Cond.selects yX11_readActs.cls yX11_readActs yX11_readActs ∈ zq_tb := zq_inP (i := 15) (q := (yX11_readActs, 16)) (by decide +kernel) rfl rfl
theorem zs9_X11_remembered : Cond.selects yX11_remembered.cls yX11_remembered yX11_remembered ∈ zq_tb := zq_inP (i := 12) (q := (yX11_remembered, 16)) (by decide +kernel) rfl rfl
theorem zs9_X11_renewWorths : Cond.selects yX11_renewWorths.cls yX11_renewWorths yX11_renewWorths ∈ zq_tb := zq_inP (i := 0) (q := (yX11_renewWorths, 16)) (by decide +kernel) rfl rfl
theorem zs9_X11_takeBack : Cond.selects yX11_takeBack.cls yX11_takeBack yX11_takeBack ∈ zq_tb := zq_inP (i := 13) (q := (yX11_takeBack, 16)) (by decide +kernel) rfl rfl
theorem zs9_X11_worthHeld : Cond.selects yX11_worthHeld.cls yX11_worthHeld yX11_worthHeld ∈ zq_tb := zq_inP (i := 19) (q := (yX11_worthHeld, 16)) (by decide +kernel) rfl rfl
theorem zs9_X0_holderOf : Cond.selects yX0_holderOf.cls yX0_holderOf yX0_holderOf ∈ zq_tb := zw_589
theorem zs9_X0_put : Cond.selects yX0_put.cls yX0_put yX0_put ∈ zq_tb := zw_594
theorem zs9_X0_remember : Cond.selects yX0_remember.cls yX0_remember yX0_remember ∈ zq_tb := zw_607
theorem zs9_X0_restore : Cond.selects yX0_restore.cls yX0_restore yX0_restore ∈ zq_tb := zw_994
theorem zs9_X0_stepBack : Cond.selects yX0_stepBack.cls yX0_stepBack yX0_stepBack ∈ zq_tb := zw_668
theorem zs9_X0_store : Cond.selects yX0_store.cls yX0_store yX0_store ∈ zq_tb := zw_986
theorem zs9_X1_ask : Cond.selects yX1_ask.cls yX1_ask yX1_ask ∈ zq_tb := zq_inP (i := 38) (q := (yX1_ask, 8)) (by decide +kernel) rfl rfl
theorem zs9_X1_countFitting : Cond.selects yX1_countFitting.cls yX1_countFitting yX1_countFitting ∈ zq_tb := zw_893
theorem zs9_X1_countPairs : Cond.selects yX1_countPairs.cls yX1_countPairs yX1_countPairs ∈ zq_tb := zw_911
theorem zs9_X1_countThisTime : Cond.selects yX1_countThisTime.cls yX1_countThisTime yX1_countThisTime ∈ zq_tb := zq_inP (i := 39) (q := (yX1_countThisTime, 8)) (by decide +kernel) rfl rfl
theorem zs9_X1_fits : Cond.selects yX1_fits.cls yX1_fits yX1_fits ∈ zq_tb := zq_inP (i := 37) (q := (yX1_fits, 8)) (by decide +kernel) rfl rfl
theorem zs9_X1_leftAtMost : Cond.selects yX1_leftAtMost.cls yX1_leftAtMost yX1_leftAtMost ∈ zq_tb := zw_920
theorem zs9_X1_tell : Cond.selects yX1_tell.cls yX1_tell yX1_tell ∈ zq_tb := zw_881
theorem zs9_X2_allCrumbs : Cond.selects yX2_allCrumbs.cls yX2_allCrumbs yX2_allCrumbs ∈ zq_tb := zw_947
theorem zs9_X2_read : Cond.selects yX2_read.cls yX2_read yX2_read ∈ zq_tb := zw_386
theorem zs9_X3_admit : Cond.selects yX3_admit.cls yX3_admit yX3_admit ∈ zq_tb := zw_470
theorem zs9_X3_allChances : Cond.selects yX3_allChances.cls yX3_allChances yX3_allChances ∈ zq_tb := zw_968
theorem zs9_X3_allDeserts : Cond.selects yX3_allDeserts.cls yX3_allDeserts yX3_allDeserts ∈ zq_tb := zw_496
theorem zs9_X3_canPart : Cond.selects yX3_canPart.cls yX3_canPart yX3_canPart ∈ zq_tb := zw_951
theorem zs9_X3_chanceOf : Cond.selects yX3_chanceOf.cls yX3_chanceOf yX3_chanceOf ∈ zq_tb := zw_964
theorem zs9_X3_desertsOf : Cond.selects yX3_desertsOf.cls yX3_desertsOf yX3_desertsOf ∈ zq_tb := zw_500
theorem zs9_X3_judge : Cond.selects yX3_judge.cls yX3_judge yX3_judge ∈ zq_tb := zw_491
theorem zs9_X3_readDeed : Cond.selects yX3_readDeed.cls yX3_readDeed yX3_readDeed ∈ zq_tb := zq_inP (i := 2) (q := (yX3_readDeed, 4)) (by decide +kernel) rfl rfl
theorem zs9_X3_readDeeds : Cond.selects yX3_readDeeds.cls yX3_readDeeds yX3_readDeeds ∈ zq_tb := zw_478
theorem zs9_X3_readLines : Cond.selects yX3_readLines.cls yX3_readLines yX3_readLines ∈ zq_tb := zw_462
theorem zs9_X3_tasteOf : Cond.selects yX3_tasteOf.cls yX3_tasteOf yX3_tasteOf ∈ zq_tb := zw_564
theorem zs9_X4_addMember : Cond.selects yX4_addMember.cls yX4_addMember yX4_addMember ∈ zq_tb := zw_745
theorem zs9_X4_canServe : Cond.selects yX4_canServe.cls yX4_canServe yX4_canServe ∈ zq_tb := zw_763
theorem zs9_X4_findOrder : Cond.selects yX4_findOrder.cls yX4_findOrder yX4_findOrder ∈ zq_tb := zq_inP (i := 27) (q := (yX4_findOrder, 8)) (by decide +kernel) rfl rfl
theorem zs9_X4_reached : Cond.selects yX4_reached.cls yX4_reached yX4_reached ∈ zq_tb := zq_inP (i := 26) (q := (yX4_reached, 8)) (by decide +kernel) rfl rfl
theorem zs9_X4_readClaims : Cond.selects yX4_readClaims.cls yX4_readClaims yX4_readClaims ∈ zq_tb := zw_929
theorem zs9_X4_shortest : Cond.selects yX4_shortest.cls yX4_shortest yX4_shortest ∈ zq_tb := zq_inP (i := 25) (q := (yX4_shortest, 8)) (by decide +kernel) rfl rfl
theorem zs9_X4_spread : Cond.selects yX4_spread.cls yX4_spread yX4_spread ∈ zq_tb := zw_749
theorem zs9_X4_start : Cond.selects yX4_start.cls yX4_start yX4_start ∈ zq_tb := zw_740
theorem zs9_X4_tellOrder : Cond.selects yX4_tellOrder.cls yX4_tellOrder yX4_tellOrder ∈ zq_tb := zw_767
theorem zs9_X5_add : Cond.selects yX5_add.cls yX5_add yX5_add ∈ zq_tb := zw_656
theorem zs9_X5_addFraction : Cond.selects yX5_addFraction.cls yX5_addFraction yX5_addFraction ∈ zq_tb := zw_707
theorem zs9_X5_clear : Cond.selects yX5_clear.cls yX5_clear yX5_clear ∈ zq_tb := zw_652
theorem zs9_X6_addStep : Cond.selects yX6_addStep.cls yX6_addStep yX6_addStep ∈ zq_tb := zq_inP (i := 4) (q := (yX6_addStep, 8)) (by decide +kernel) rfl rfl
theorem zs9_X6_hold : Cond.selects yX6_hold.cls yX6_hold yX6_hold ∈ zq_tb := zq_inP (i := 5) (q := (yX6_hold, 8)) (by decide +kernel) rfl rfl
theorem zs9_X6_read : Cond.selects yX6_read.cls yX6_read yX6_read ∈ zq_tb := zw_508
theorem zs9_X6_readJoint : Cond.selects yX6_readJoint.cls yX6_readJoint yX6_readJoint ∈ zq_tb := zq_inP (i := 6) (q := (yX6_readJoint, 8)) (by decide +kernel) rfl rfl
theorem zs9_X6_readThing : Cond.selects yX6_readThing.cls yX6_readThing yX6_readThing ∈ zq_tb := zq_inP (i := 3) (q := (yX6_readThing, 8)) (by decide +kernel) rfl rfl
theorem zs9_X6_release : Cond.selects yX6_release.cls yX6_release yX6_release ∈ zq_tb := zq_inP (i := 7) (q := (yX6_release, 8)) (by decide +kernel) rfl rfl
theorem zs9_X6_walk : Cond.selects yX6_walk.cls yX6_walk yX6_walk ∈ zq_tb := zq_inP (i := 1) (q := (yX6_walk, 8)) (by decide +kernel) rfl rfl
theorem zs9_X6_worthOf : Cond.selects yX6_worthOf.cls yX6_worthOf yX6_worthOf ∈ zq_tb := zw_437
theorem zs9_X7_isCalmWith : Cond.selects yX7_isCalmWith.cls yX7_isCalmWith yX7_isCalmWith ∈ zq_tb := zq_inP (i := 33) (q := (yX7_isCalmWith, 7)) (by decide +kernel) rfl rfl
theorem zs9_X7_isLess : Cond.selects yX7_isLess.cls yX7_isLess yX7_isLess ∈ zq_tb := zq_inP (i := 32) (q := (yX7_isLess, 7)) (by decide +kernel) rfl rfl
theorem zs9_X7_note : Cond.selects yX7_note.cls yX7_note yX7_note ∈ zq_tb := zq_inP (i := 31) (q := (yX7_note, 7)) (by decide +kernel) rfl rfl
theorem zs9_X7_othersAreCalm : Cond.selects yX7_othersAreCalm.cls yX7_othersAreCalm yX7_othersAreCalm ∈ zq_tb := zq_inP (i := 30) (q := (yX7_othersAreCalm, 7)) (by decide +kernel) rfl rfl
theorem zs9_X7_part : Cond.selects yX7_part.cls yX7_part yX7_part ∈ zq_tb := zq_inP (i := 29) (q := (yX7_part, 7)) (by decide +kernel) rfl rfl
theorem zs9_X7_prefers : Cond.selects yX7_prefers.cls yX7_prefers yX7_prefers ∈ zq_tb := zq_inP (i := 34) (q := (yX7_prefers, 7)) (by decide +kernel) rfl rfl
theorem zs9_X7_ways : Cond.selects yX7_ways.cls yX7_ways yX7_ways ∈ zq_tb := zw_802
theorem zs9_X8_addFour : Cond.selects yX8_addFour.cls yX8_addFour yX8_addFour ∈ zq_tb := zw_370
theorem zs9_X8_clear : Cond.selects yX8_clear.cls yX8_clear yX8_clear ∈ zq_tb := zw_417
theorem zs9_X8_fault : Cond.selects yX8_fault.cls yX8_fault yX8_fault ∈ zq_tb := zw_421
theorem zs9_X8_isFinished : Cond.selects yX8_isFinished.cls yX8_isFinished yX8_isFinished ∈ zq_tb := zw_397
theorem zs9_X8_next : Cond.selects yX8_next.cls yX8_next yX8_next ∈ zq_tb := zw_405
theorem zs9_X8_shorten : Cond.selects yX8_shorten.cls yX8_shorten yX8_shorten ∈ zq_tb := zw_378
theorem zs9_X8_skip : Cond.selects yX8_skip.cls yX8_skip yX8_skip ∈ zq_tb := zw_413
theorem zs9_X8_start : Cond.selects yX8_start.cls yX8_start yX8_start ∈ zq_tb := zw_390
theorem zs9_X8_takeDigit : Cond.selects yX8_takeDigit.cls yX8_takeDigit yX8_takeDigit ∈ zq_tb := zw_401
theorem zs9_X8_takeLetter : Cond.selects yX8_takeLetter.cls yX8_takeLetter yX8_takeLetter ∈ zq_tb := zw_409
theorem zs9_X8_takeNumber : Cond.selects yX8_takeNumber.cls yX8_takeNumber yX8_takeNumber ∈ zq_tb := zw_519
theorem zs9_X9_favourite : Cond.selects yX9_favourite.cls yX9_favourite yX9_favourite ∈ zq_tb := zq_inP (i := 35) (q := (yX9_favourite, 4)) (by decide +kernel) rfl rfl
theorem zs9_X9_read : Cond.selects yX9_read.cls yX9_read yX9_read ∈ zq_tb := zw_846
theorem zs9_X9_startTaking : Cond.selects yX9_startTaking.cls yX9_startTaking yX9_startTaking ∈ zq_tb := zw_853
theorem zs9_X9_takeAll : Cond.selects yX9_takeAll.cls yX9_takeAll yX9_takeAll ∈ zq_tb := zw_859
theorem zs9_X10_between : Cond.selects yX10_between.cls yX10_between yX10_between ∈ zq_tb := zw_599
theorem zs9_X10_of : Cond.selects yX10_of.cls yX10_of yX10_of ∈ zq_tb := zw_556
theorem zs9_X10_renew : Cond.selects yX10_renew.cls yX10_renew yX10_renew ∈ zq_tb := zw_433
theorem zs9_X10_whole : Cond.selects yX10_whole.cls yX10_whole yX10_whole ∈ zq_tb := zw_692
theorem zs9_X12_adds : Cond.selects yX12_adds.cls yX12_adds yX12_adds ∈ zq_tb := zq_inP (i := 69) (q := (yX12_adds, 67)) (by decide +kernel) rfl rfl
theorem zs9_X12_all : Cond.selects yX12_all.cls yX12_all yX12_all ∈ zq_tb := zq_inP (i := 75) (q := (yX12_all, 67)) (by decide +kernel) rfl rfl
theorem zs9_X12_allDeserts : Cond.selects yX12_allDeserts.cls yX12_allDeserts yX12_allDeserts ∈ zq_tb := zq_inP (i := 51) (q := (yX12_allDeserts, 67)) (by decide +kernel) rfl rfl
theorem zs9_X12_among : Cond.selects yX12_among.cls yX12_among yX12_among ∈ zq_tb := zq_inP (i := 42) (q := (yX12_among, 67)) (by decide +kernel) rfl rfl
theorem zs9_X12_backs : Cond.selects yX12_backs.cls yX12_backs yX12_backs ∈ zq_tb := zq_inP (i := 70) (q := (yX12_backs, 67)) (by decide +kernel) rfl rfl
theorem zs9_X12_begins : Cond.selects yX12_begins.cls yX12_begins yX12_begins ∈ zq_tb := zq_inP (i := 41) (q := (yX12_begins, 67)) (by decide +kernel) rfl rfl
theorem zs9_X12_bets : Cond.selects yX12_bets.cls yX12_bets yX12_bets ∈ zq_tb := zq_inP (i := 92) (q := (yX12_bets, 67)) (by decide +kernel) rfl rfl
theorem zs9_X12_calmsFrom : Cond.selects yX12_calmsFrom.cls yX12_calmsFrom yX12_calmsFrom ∈ zq_tb := zq_inP (i := 82) (q := (yX12_calmsFrom, 67)) (by decide +kernel) rfl rfl
theorem zs9_X12_canServe : Cond.selects yX12_canServe.cls yX12_canServe yX12_canServe ∈ zq_tb := zq_inP (i := 76) (q := (yX12_canServe, 67)) (by decide +kernel) rfl rfl
theorem zs9_X12_codes : Cond.selects yX12_codes.cls yX12_codes yX12_codes ∈ zq_tb := zq_inP (i := 54) (q := (yX12_codes, 67)) (by decide +kernel) rfl rfl
theorem zs9_X12_counts : Cond.selects yX12_counts.cls yX12_counts yX12_counts ∈ zq_tb := zq_inP (i := 68) (q := (yX12_counts, 67)) (by decide +kernel) rfl rfl
theorem zs9_X12_crumbsAll : Cond.selects yX12_crumbsAll.cls yX12_crumbsAll yX12_crumbsAll ∈ zq_tb := zq_inP (i := 90) (q := (yX12_crumbsAll, 67)) (by decide +kernel) rfl rfl
theorem zs9_X12_desertsOf : Cond.selects yX12_desertsOf.cls yX12_desertsOf yX12_desertsOf ∈ zq_tb := zq_inP (i := 91) (q := (yX12_desertsOf, 67)) (by decide +kernel) rfl rfl
theorem zs9_X12_does : Cond.selects yX12_does.cls yX12_does yX12_does ∈ zq_tb := zq_inP (i := 73) (q := (yX12_does, 67)) (by decide +kernel) rfl rfl
theorem zs9_X12_eats : Cond.selects yX12_eats.cls yX12_eats yX12_eats ∈ zq_tb := zq_inP (i := 71) (q := (yX12_eats, 67)) (by decide +kernel) rfl rfl
theorem zs9_X12_endFor : Cond.selects yX12_endFor.cls yX12_endFor yX12_endFor ∈ zq_tb := zq_inP (i := 79) (q := (yX12_endFor, 67)) (by decide +kernel) rfl rfl
theorem zs9_X12_enters : Cond.selects yX12_enters.cls yX12_enters yX12_enters ∈ zq_tb := zq_inP (i := 74) (q := (yX12_enters, 67)) (by decide +kernel) rfl rfl
theorem zs9_X12_faultOf : Cond.selects yX12_faultOf.cls yX12_faultOf yX12_faultOf ∈ zq_tb := zq_inP (i := 45) (q := (yX12_faultOf, 67)) (by decide +kernel) rfl rfl
theorem zs9_X12_fitsBy : Cond.selects yX12_fitsBy.cls yX12_fitsBy yX12_fitsBy ∈ zq_tb := zq_inP (i := 88) (q := (yX12_fitsBy, 67)) (by decide +kernel) rfl rfl
theorem zs9_X12_gives : Cond.selects yX12_gives.cls yX12_gives yX12_gives ∈ zq_tb := zq_inP (i := 66) (q := (yX12_gives, 67)) (by decide +kernel) rfl rfl
theorem zs9_X12_goesByTurns : Cond.selects yX12_goesByTurns.cls yX12_goesByTurns yX12_goesByTurns ∈ zq_tb := zq_inP (i := 87) (q := (yX12_goesByTurns, 67)) (by decide +kernel) rfl rfl
theorem zs9_X12_goesTo : Cond.selects yX12_goesTo.cls yX12_goesTo yX12_goesTo ∈ zq_tb := zq_inP (i := 84) (q := (yX12_goesTo, 67)) (by decide +kernel) rfl rfl
theorem zs9_X12_held : Cond.selects yX12_held.cls yX12_held yX12_held ∈ zq_tb := zq_inP (i := 63) (q := (yX12_held, 67)) (by decide +kernel) rfl rfl
theorem zs9_X12_holds : Cond.selects yX12_holds.cls yX12_holds yX12_holds ∈ zq_tb := zq_inP (i := 62) (q := (yX12_holds, 67)) (by decide +kernel) rfl rfl
theorem zs9_X12_isCalm : Cond.selects yX12_isCalm.cls yX12_isCalm yX12_isCalm ∈ zq_tb := zq_inP (i := 83) (q := (yX12_isCalm, 67)) (by decide +kernel) rfl rfl
theorem zs9_X12_isCell : Cond.selects yX12_isCell.cls yX12_isCell yX12_isCell ∈ zq_tb := zq_inP (i := 55) (q := (yX12_isCell, 67)) (by decide +kernel) rfl rfl
theorem zs9_X12_isDigit : Cond.selects yX12_isDigit.cls yX12_isDigit yX12_isDigit ∈ zq_tb := zq_inP (i := 48) (q := (yX12_isDigit, 67)) (by decide +kernel) rfl rfl
theorem zs9_X12_isDue : Cond.selects yX12_isDue.cls yX12_isDue yX12_isDue ∈ zq_tb := zq_inP (i := 64) (q := (yX12_isDue, 67)) (by decide +kernel) rfl rfl
theorem zs9_X12_isGuest : Cond.selects yX12_isGuest.cls yX12_isGuest yX12_isGuest ∈ zq_tb := zq_inP (i := 57) (q := (yX12_isGuest, 67)) (by decide +kernel) rfl rfl
theorem zs9_X12_isSlice : Cond.selects yX12_isSlice.cls yX12_isSlice yX12_isSlice ∈ zq_tb := zq_inP (i := 67) (q := (yX12_isSlice, 67)) (by decide +kernel) rfl rfl
theorem zs9_X12_isTurnLess : Cond.selects yX12_isTurnLess.cls yX12_isTurnLess yX12_isTurnLess ∈ zq_tb := zq_inP (i := 78) (q := (yX12_isTurnLess, 67)) (by decide +kernel) rfl rfl
theorem zs9_X12_laysTable : Cond.selects yX12_laysTable.cls yX12_laysTable yX12_laysTable ∈ zq_tb := zq_inP (i := 58) (q := (yX12_laysTable, 67)) (by decide +kernel) rfl rfl
theorem zs9_X12_letter : Cond.selects yX12_letter.cls yX12_letter yX12_letter ∈ zq_tb := zq_inP (i := 50) (q := (yX12_letter, 67)) (by decide +kernel) rfl rfl
theorem zs9_X12_meets : Cond.selects yX12_meets.cls yX12_meets yX12_meets ∈ zq_tb := zq_inP (i := 89) (q := (yX12_meets, 67)) (by decide +kernel) rfl rfl
theorem zs9_X12_number : Cond.selects yX12_number.cls yX12_number yX12_number ∈ zq_tb := zq_inP (i := 47) (q := (yX12_number, 67)) (by decide +kernel) rfl rfl
theorem zs9_X12_partsOn : Cond.selects yX12_partsOn.cls yX12_partsOn yX12_partsOn ∈ zq_tb := zq_inP (i := 81) (q := (yX12_partsOn, 67)) (by decide +kernel) rfl rfl
theorem zs9_X12_picksAsWorth : Cond.selects yX12_picksAsWorth.cls yX12_picksAsWorth yX12_picksAsWorth ∈ zq_tb := zq_inP (i := 86) (q := (yX12_picksAsWorth, 67)) (by decide +kernel) rfl rfl
theorem zs9_X12_putsBy : Cond.selects yX12_putsBy.cls yX12_putsBy yX12_putsBy ∈ zq_tb := zq_inP (i := 65) (q := (yX12_putsBy, 67)) (by decide +kernel) rfl rfl
theorem zs9_X12_readsAct : Cond.selects yX12_readsAct.cls yX12_readsAct yX12_readsAct ∈ zq_tb := zq_inP (i := 72) (q := (yX12_readsAct, 67)) (by decide +kernel) rfl rfl
theorem zs9_X12_readsDeed : Cond.selects yX12_readsDeed.cls yX12_readsDeed yX12_readsDeed ∈ zq_tb := zq_inP (i := 49) (q := (yX12_readsDeed, 67)) (by decide +kernel) rfl rfl
theorem zs9_X12_readsGuest : Cond.selects yX12_readsGuest.cls yX12_readsGuest yX12_readsGuest ∈ zq_tb := zq_inP (i := 46) (q := (yX12_readsGuest, 67)) (by decide +kernel) rfl rfl
theorem zs9_X12_readsRank : Cond.selects yX12_readsRank.cls yX12_readsRank yX12_readsRank ∈ zq_tb := zq_inP (i := 52) (q := (yX12_readsRank, 67)) (by decide +kernel) rfl rfl
theorem zs9_X12_readsThing : Cond.selects yX12_readsThing.cls yX12_readsThing yX12_readsThing ∈ zq_tb := zq_inP (i := 53) (q := (yX12_readsThing, 67)) (by decide +kernel) rfl rfl
theorem zs9_X12_readsTurns : Cond.selects yX12_readsTurns.cls yX12_readsTurns yX12_readsTurns ∈ zq_tb := zq_inP (i := 85) (q := (yX12_readsTurns, 67)) (by decide +kernel) rfl rfl
theorem zs9_X12_refuse : Cond.selects yX12_refuse.cls yX12_refuse yX12_refuse ∈ zq_tb := zq_inP (i := 56) (q := (yX12_refuse, 67)) (by decide +kernel) rfl rfl
theorem zs9_X12_ruled : Cond.selects yX12_ruled.cls yX12_ruled yX12_ruled ∈ zq_tb := zq_inP (i := 61) (q := (yX12_ruled, 67)) (by decide +kernel) rfl rfl
theorem zs9_X12_serves : Cond.selects yX12_serves.cls yX12_serves yX12_serves ∈ zq_tb := zq_inP (i := 77) (q := (yX12_serves, 67)) (by decide +kernel) rfl rfl
theorem zs9_X12_sliceOf : Cond.selects yX12_sliceOf.cls yX12_sliceOf yX12_sliceOf ∈ zq_tb := zq_inP (i := 80) (q := (yX12_sliceOf, 67)) (by decide +kernel) rfl rfl
theorem zs9_X12_takes : Cond.selects yX12_takes.cls yX12_takes yX12_takes ∈ zq_tb := zq_inP (i := 44) (q := (yX12_takes, 67)) (by decide +kernel) rfl rfl
theorem zs9_X12_takesOf : Cond.selects yX12_takesOf.cls yX12_takesOf yX12_takesOf ∈ zq_tb := zq_inP (i := 43) (q := (yX12_takesOf, 67)) (by decide +kernel) rfl rfl
theorem zs9_X12_worthBy : Cond.selects yX12_worthBy.cls yX12_worthBy yX12_worthBy ∈ zq_tb := zq_inP (i := 60) (q := (yX12_worthBy, 67)) (by decide +kernel) rfl rfl
theorem zs9_X12_worthOf : Cond.selects yX12_worthOf.cls yX12_worthOf yX12_worthOf ∈ zq_tb := zq_inP (i := 59) (q := (yX12_worthOf, 67)) (by decide +kernel) rfl rfl
theorem zs9_J0_charAt_5068e : Cond.selects yJ0_charAt_5068e.cls yJ0_charAt_5068e yJ0_charAt_5068e ∈ zq_tb := zw_1340
theorem zs9_J0_coder_7d493 : Cond.selects yJ0_coder_7d493.cls yJ0_coder_7d493 yJ0_coder_7d493 ∈ zq_tb := zw_1334
theorem zs9_J0_isLatin1_aae02 : Cond.selects yJ0_isLatin1_aae02.cls yJ0_isLatin1_aae02 yJ0_isLatin1_aae02 ∈ zq_tb := zw_1344
theorem zs9_J0_length_8abf5 : Cond.selects yJ0_length_8abf5.cls yJ0_length_8abf5 yJ0_length_8abf5 ∈ zq_tb := zw_1330
theorem zq_loop1 {X : zq_X} {nL : Nat} {pc1 : Nat} {σ1 : Type} (μ1 : σ1 → Nat) (I1 : σ1 → zq_P) (b1 : zq_P → zq_P) (s1 : ∀ {J1 : zq_P}, zq_ok X nL pc1 J1 → zq_ok X nL pc1 (b1 J1)) (v1 : ∀ a ls st h, I1 a ls st h → b1 (fun ls st h => ∃ b, μ1 b < μ1 a ∧ I1 b ls st h) ls st h)  : zq_ok X nL pc1 (fun ls st h => ∃ a, I1 a ls st h) := by
  have key : ∀ n : Nat, (∀ a, μ1 a < n → zq_ok X nL pc1 (I1 a)) := by
    intro n
    induction n with
    | zero => exact fun a h => absurd h (Nat.not_lt_zero _)
    | succ n ih =>
      have ih1 := ih
      have lift : ∀ {σ : Type} {pc : Nat} (μ : σ → Nat) (I : σ → zq_P) (m : Nat), m ≤ n → (∀ a, μ a < n → zq_ok X nL pc (I a)) → zq_ok X nL pc (fun ls st h => ∃ b, μ b < m ∧ I b ls st h) := by
        intro σ pc μ I m hm hi
        obtain ⟨p, l, e, R, s, m9, args, below, meth, c, D, Y, ad, A, kc, kn, Z⟩ := X
        intro ls st h H locs a' hP
        obtain ⟨b, hb, hI⟩ := hP
        exact hi b (by omega) ls st h H locs a' hI
      exact fun a ha => (s1 (lift μ1 I1 (μ1 a) (by omega) ih1)).mono (v1 a)
  have lift : ∀ {σ : Type} {pc : Nat} (μ : σ → Nat) (I : σ → zq_P), (∀ n a, μ a < n → zq_ok X nL pc (I a)) → zq_ok X nL pc (fun ls st h => ∃ b, I b ls st h) := by
    intro σ pc μ I hi
    obtain ⟨p, l, e, R, s, m9, args, below, meth, c, D, Y, ad, A, kc, kn, Z⟩ := X
    intro ls st h H locs a' hP
    obtain ⟨b, hI⟩ := hP
    exact hi (μ b + 1) b (Nat.lt_succ_self _) ls st h H locs a' hI
  exact lift μ1 I1 key

theorem zq_loop2 {X : zq_X} {nL : Nat} {pc1 : Nat} {σ1 : Type} {pc2 : Nat} {σ2 : Type} (μ1 : σ1 → Nat) (μ2 : σ2 → Nat) (I1 : σ1 → zq_P) (I2 : σ2 → zq_P) (b1 : zq_P → zq_P → zq_P) (b2 : zq_P → zq_P → zq_P) (s1 : ∀ {J1 J2 : zq_P}, zq_ok X nL pc1 J1 → zq_ok X nL pc2 J2 → zq_ok X nL pc1 (b1 J1 J2)) (s2 : ∀ {J1 J2 : zq_P}, zq_ok X nL pc1 J1 → zq_ok X nL pc2 J2 → zq_ok X nL pc2 (b2 J1 J2)) (v1 : ∀ a ls st h, I1 a ls st h → b1 (fun ls st h => ∃ b, μ1 b < μ1 a ∧ I1 b ls st h) (fun ls st h => ∃ b, μ2 b < μ1 a ∧ I2 b ls st h) ls st h) (v2 : ∀ a ls st h, I2 a ls st h → b2 (fun ls st h => ∃ b, μ1 b < μ2 a ∧ I1 b ls st h) (fun ls st h => ∃ b, μ2 b < μ2 a ∧ I2 b ls st h) ls st h)  : zq_ok X nL pc1 (fun ls st h => ∃ a, I1 a ls st h) ∧ zq_ok X nL pc2 (fun ls st h => ∃ a, I2 a ls st h) := by
  have key : ∀ n : Nat, (∀ a, μ1 a < n → zq_ok X nL pc1 (I1 a)) ∧ (∀ a, μ2 a < n → zq_ok X nL pc2 (I2 a)) := by
    intro n
    induction n with
    | zero => exact ⟨fun a h => absurd h (Nat.not_lt_zero _), fun a h => absurd h (Nat.not_lt_zero _)⟩
    | succ n ih =>
      obtain ⟨ih1, ih2⟩ := ih
      have lift : ∀ {σ : Type} {pc : Nat} (μ : σ → Nat) (I : σ → zq_P) (m : Nat), m ≤ n → (∀ a, μ a < n → zq_ok X nL pc (I a)) → zq_ok X nL pc (fun ls st h => ∃ b, μ b < m ∧ I b ls st h) := by
        intro σ pc μ I m hm hi
        obtain ⟨p, l, e, R, s, m9, args, below, meth, c, D, Y, ad, A, kc, kn, Z⟩ := X
        intro ls st h H locs a' hP
        obtain ⟨b, hb, hI⟩ := hP
        exact hi b (by omega) ls st h H locs a' hI
      exact ⟨fun a ha => (s1 (lift μ1 I1 (μ1 a) (by omega) ih1) (lift μ2 I2 (μ1 a) (by omega) ih2)).mono (v1 a), fun a ha => (s2 (lift μ1 I1 (μ2 a) (by omega) ih1) (lift μ2 I2 (μ2 a) (by omega) ih2)).mono (v2 a)⟩
  have lift : ∀ {σ : Type} {pc : Nat} (μ : σ → Nat) (I : σ → zq_P), (∀ n a, μ a < n → zq_ok X nL pc (I a)) → zq_ok X nL pc (fun ls st h => ∃ b, I b ls st h) := by
    intro σ pc μ I hi
    obtain ⟨p, l, e, R, s, m9, args, below, meth, c, D, Y, ad, A, kc, kn, Z⟩ := X
    intro ls st h H locs a' hP
    obtain ⟨b, hI⟩ := hP
    exact hi (μ b + 1) b (Nat.lt_succ_self _) ls st h H locs a' hI
  exact ⟨lift μ1 I1 (fun n => (key n).1), lift μ2 I2 (fun n => (key n).2)⟩

theorem zq_loop3 {X : zq_X} {nL : Nat} {pc1 : Nat} {σ1 : Type} {pc2 : Nat} {σ2 : Type} {pc3 : Nat} {σ3 : Type} (μ1 : σ1 → Nat) (μ2 : σ2 → Nat) (μ3 : σ3 → Nat) (I1 : σ1 → zq_P) (I2 : σ2 → zq_P) (I3 : σ3 → zq_P) (b1 : zq_P → zq_P → zq_P → zq_P) (b2 : zq_P → zq_P → zq_P → zq_P) (b3 : zq_P → zq_P → zq_P → zq_P) (s1 : ∀ {J1 J2 J3 : zq_P}, zq_ok X nL pc1 J1 → zq_ok X nL pc2 J2 → zq_ok X nL pc3 J3 → zq_ok X nL pc1 (b1 J1 J2 J3)) (s2 : ∀ {J1 J2 J3 : zq_P}, zq_ok X nL pc1 J1 → zq_ok X nL pc2 J2 → zq_ok X nL pc3 J3 → zq_ok X nL pc2 (b2 J1 J2 J3)) (s3 : ∀ {J1 J2 J3 : zq_P}, zq_ok X nL pc1 J1 → zq_ok X nL pc2 J2 → zq_ok X nL pc3 J3 → zq_ok X nL pc3 (b3 J1 J2 J3)) (v1 : ∀ a ls st h, I1 a ls st h → b1 (fun ls st h => ∃ b, μ1 b < μ1 a ∧ I1 b ls st h) (fun ls st h => ∃ b, μ2 b < μ1 a ∧ I2 b ls st h) (fun ls st h => ∃ b, μ3 b < μ1 a ∧ I3 b ls st h) ls st h) (v2 : ∀ a ls st h, I2 a ls st h → b2 (fun ls st h => ∃ b, μ1 b < μ2 a ∧ I1 b ls st h) (fun ls st h => ∃ b, μ2 b < μ2 a ∧ I2 b ls st h) (fun ls st h => ∃ b, μ3 b < μ2 a ∧ I3 b ls st h) ls st h) (v3 : ∀ a ls st h, I3 a ls st h → b3 (fun ls st h => ∃ b, μ1 b < μ3 a ∧ I1 b ls st h) (fun ls st h => ∃ b, μ2 b < μ3 a ∧ I2 b ls st h) (fun ls st h => ∃ b, μ3 b < μ3 a ∧ I3 b ls st h) ls st h)  : zq_ok X nL pc1 (fun ls st h => ∃ a, I1 a ls st h) ∧ zq_ok X nL pc2 (fun ls st h => ∃ a, I2 a ls st h) ∧ zq_ok X nL pc3 (fun ls st h => ∃ a, I3 a ls st h) := by
  have key : ∀ n : Nat, (∀ a, μ1 a < n → zq_ok X nL pc1 (I1 a)) ∧ (∀ a, μ2 a < n → zq_ok X nL pc2 (I2 a)) ∧ (∀ a, μ3 a < n → zq_ok X nL pc3 (I3 a)) := by
    intro n
    induction n with
    | zero => exact ⟨fun a h => absurd h (Nat.not_lt_zero _), fun a h => absurd h (Nat.not_lt_zero _), fun a h => absurd h (Nat.not_lt_zero _)⟩
    | succ n ih =>
      obtain ⟨ih1, ih2, ih3⟩ := ih
      have lift : ∀ {σ : Type} {pc : Nat} (μ : σ → Nat) (I : σ → zq_P) (m : Nat), m ≤ n → (∀ a, μ a < n → zq_ok X nL pc (I a)) → zq_ok X nL pc (fun ls st h => ∃ b, μ b < m ∧ I b ls st h) := by
        intro σ pc μ I m hm hi
        obtain ⟨p, l, e, R, s, m9, args, below, meth, c, D, Y, ad, A, kc, kn, Z⟩ := X
        intro ls st h H locs a' hP
        obtain ⟨b, hb, hI⟩ := hP
        exact hi b (by omega) ls st h H locs a' hI
      exact ⟨fun a ha => (s1 (lift μ1 I1 (μ1 a) (by omega) ih1) (lift μ2 I2 (μ1 a) (by omega) ih2) (lift μ3 I3 (μ1 a) (by omega) ih3)).mono (v1 a), fun a ha => (s2 (lift μ1 I1 (μ2 a) (by omega) ih1) (lift μ2 I2 (μ2 a) (by omega) ih2) (lift μ3 I3 (μ2 a) (by omega) ih3)).mono (v2 a), fun a ha => (s3 (lift μ1 I1 (μ3 a) (by omega) ih1) (lift μ2 I2 (μ3 a) (by omega) ih2) (lift μ3 I3 (μ3 a) (by omega) ih3)).mono (v3 a)⟩
  have lift : ∀ {σ : Type} {pc : Nat} (μ : σ → Nat) (I : σ → zq_P), (∀ n a, μ a < n → zq_ok X nL pc (I a)) → zq_ok X nL pc (fun ls st h => ∃ b, I b ls st h) := by
    intro σ pc μ I hi
    obtain ⟨p, l, e, R, s, m9, args, below, meth, c, D, Y, ad, A, kc, kn, Z⟩ := X
    intro ls st h H locs a' hP
    obtain ⟨b, hI⟩ := hP
    exact hi (μ b + 1) b (Nat.lt_succ_self _) ls st h H locs a' hI
  exact ⟨lift μ1 I1 (fun n => (key n).1), lift μ2 I2 (fun n => (key n).2.1), lift μ3 I3 (fun n => (key n).2.2)⟩

theorem zq_loop4 {X : zq_X} {nL : Nat} {pc1 : Nat} {σ1 : Type} {pc2 : Nat} {σ2 : Type} {pc3 : Nat} {σ3 : Type} {pc4 : Nat} {σ4 : Type} (μ1 : σ1 → Nat) (μ2 : σ2 → Nat) (μ3 : σ3 → Nat) (μ4 : σ4 → Nat) (I1 : σ1 → zq_P) (I2 : σ2 → zq_P) (I3 : σ3 → zq_P) (I4 : σ4 → zq_P) (b1 : zq_P → zq_P → zq_P → zq_P → zq_P) (b2 : zq_P → zq_P → zq_P → zq_P → zq_P) (b3 : zq_P → zq_P → zq_P → zq_P → zq_P) (b4 : zq_P → zq_P → zq_P → zq_P → zq_P) (s1 : ∀ {J1 J2 J3 J4 : zq_P}, zq_ok X nL pc1 J1 → zq_ok X nL pc2 J2 → zq_ok X nL pc3 J3 → zq_ok X nL pc4 J4 → zq_ok X nL pc1 (b1 J1 J2 J3 J4)) (s2 : ∀ {J1 J2 J3 J4 : zq_P}, zq_ok X nL pc1 J1 → zq_ok X nL pc2 J2 → zq_ok X nL pc3 J3 → zq_ok X nL pc4 J4 → zq_ok X nL pc2 (b2 J1 J2 J3 J4)) (s3 : ∀ {J1 J2 J3 J4 : zq_P}, zq_ok X nL pc1 J1 → zq_ok X nL pc2 J2 → zq_ok X nL pc3 J3 → zq_ok X nL pc4 J4 → zq_ok X nL pc3 (b3 J1 J2 J3 J4)) (s4 : ∀ {J1 J2 J3 J4 : zq_P}, zq_ok X nL pc1 J1 → zq_ok X nL pc2 J2 → zq_ok X nL pc3 J3 → zq_ok X nL pc4 J4 → zq_ok X nL pc4 (b4 J1 J2 J3 J4)) (v1 : ∀ a ls st h, I1 a ls st h → b1 (fun ls st h => ∃ b, μ1 b < μ1 a ∧ I1 b ls st h) (fun ls st h => ∃ b, μ2 b < μ1 a ∧ I2 b ls st h) (fun ls st h => ∃ b, μ3 b < μ1 a ∧ I3 b ls st h) (fun ls st h => ∃ b, μ4 b < μ1 a ∧ I4 b ls st h) ls st h) (v2 : ∀ a ls st h, I2 a ls st h → b2 (fun ls st h => ∃ b, μ1 b < μ2 a ∧ I1 b ls st h) (fun ls st h => ∃ b, μ2 b < μ2 a ∧ I2 b ls st h) (fun ls st h => ∃ b, μ3 b < μ2 a ∧ I3 b ls st h) (fun ls st h => ∃ b, μ4 b < μ2 a ∧ I4 b ls st h) ls st h) (v3 : ∀ a ls st h, I3 a ls st h → b3 (fun ls st h => ∃ b, μ1 b < μ3 a ∧ I1 b ls st h) (fun ls st h => ∃ b, μ2 b < μ3 a ∧ I2 b ls st h) (fun ls st h => ∃ b, μ3 b < μ3 a ∧ I3 b ls st h) (fun ls st h => ∃ b, μ4 b < μ3 a ∧ I4 b ls st h) ls st h) (v4 : ∀ a ls st h, I4 a ls st h → b4 (fun ls st h => ∃ b, μ1 b < μ4 a ∧ I1 b ls st h) (fun ls st h => ∃ b, μ2 b < μ4 a ∧ I2 b ls st h) (fun ls st h => ∃ b, μ3 b < μ4 a ∧ I3 b ls st h) (fun ls st h => ∃ b, μ4 b < μ4 a ∧ I4 b ls st h) ls st h)  : zq_ok X nL pc1 (fun ls st h => ∃ a, I1 a ls st h) ∧ zq_ok X nL pc2 (fun ls st h => ∃ a, I2 a ls st h) ∧ zq_ok X nL pc3 (fun ls st h => ∃ a, I3 a ls st h) ∧ zq_ok X nL pc4 (fun ls st h => ∃ a, I4 a ls st h) := by
  have key : ∀ n : Nat, (∀ a, μ1 a < n → zq_ok X nL pc1 (I1 a)) ∧ (∀ a, μ2 a < n → zq_ok X nL pc2 (I2 a)) ∧ (∀ a, μ3 a < n → zq_ok X nL pc3 (I3 a)) ∧ (∀ a, μ4 a < n → zq_ok X nL pc4 (I4 a)) := by
    intro n
    induction n with
    | zero => exact ⟨fun a h => absurd h (Nat.not_lt_zero _), fun a h => absurd h (Nat.not_lt_zero _), fun a h => absurd h (Nat.not_lt_zero _), fun a h => absurd h (Nat.not_lt_zero _)⟩
    | succ n ih =>
      obtain ⟨ih1, ih2, ih3, ih4⟩ := ih
      have lift : ∀ {σ : Type} {pc : Nat} (μ : σ → Nat) (I : σ → zq_P) (m : Nat), m ≤ n → (∀ a, μ a < n → zq_ok X nL pc (I a)) → zq_ok X nL pc (fun ls st h => ∃ b, μ b < m ∧ I b ls st h) := by
        intro σ pc μ I m hm hi
        obtain ⟨p, l, e, R, s, m9, args, below, meth, c, D, Y, ad, A, kc, kn, Z⟩ := X
        intro ls st h H locs a' hP
        obtain ⟨b, hb, hI⟩ := hP
        exact hi b (by omega) ls st h H locs a' hI
      exact ⟨fun a ha => (s1 (lift μ1 I1 (μ1 a) (by omega) ih1) (lift μ2 I2 (μ1 a) (by omega) ih2) (lift μ3 I3 (μ1 a) (by omega) ih3) (lift μ4 I4 (μ1 a) (by omega) ih4)).mono (v1 a), fun a ha => (s2 (lift μ1 I1 (μ2 a) (by omega) ih1) (lift μ2 I2 (μ2 a) (by omega) ih2) (lift μ3 I3 (μ2 a) (by omega) ih3) (lift μ4 I4 (μ2 a) (by omega) ih4)).mono (v2 a), fun a ha => (s3 (lift μ1 I1 (μ3 a) (by omega) ih1) (lift μ2 I2 (μ3 a) (by omega) ih2) (lift μ3 I3 (μ3 a) (by omega) ih3) (lift μ4 I4 (μ3 a) (by omega) ih4)).mono (v3 a), fun a ha => (s4 (lift μ1 I1 (μ4 a) (by omega) ih1) (lift μ2 I2 (μ4 a) (by omega) ih2) (lift μ3 I3 (μ4 a) (by omega) ih3) (lift μ4 I4 (μ4 a) (by omega) ih4)).mono (v4 a)⟩
  have lift : ∀ {σ : Type} {pc : Nat} (μ : σ → Nat) (I : σ → zq_P), (∀ n a, μ a < n → zq_ok X nL pc (I a)) → zq_ok X nL pc (fun ls st h => ∃ b, I b ls st h) := by
    intro σ pc μ I hi
    obtain ⟨p, l, e, R, s, m9, args, below, meth, c, D, Y, ad, A, kc, kn, Z⟩ := X
    intro ls st h H locs a' hP
    obtain ⟨b, hI⟩ := hP
    exact hi (μ b + 1) b (Nat.lt_succ_self _) ls st h H locs a' hI
  exact ⟨lift μ1 I1 (fun n => (key n).1), lift μ2 I2 (fun n => (key n).2.1), lift μ3 I3 (fun n => (key n).2.2.1), lift μ4 I4 (fun n => (key n).2.2.2)⟩

theorem zq_loop5 {X : zq_X} {nL : Nat} {pc1 : Nat} {σ1 : Type} {pc2 : Nat} {σ2 : Type} {pc3 : Nat} {σ3 : Type} {pc4 : Nat} {σ4 : Type} {pc5 : Nat} {σ5 : Type} (μ1 : σ1 → Nat) (μ2 : σ2 → Nat) (μ3 : σ3 → Nat) (μ4 : σ4 → Nat) (μ5 : σ5 → Nat) (I1 : σ1 → zq_P) (I2 : σ2 → zq_P) (I3 : σ3 → zq_P) (I4 : σ4 → zq_P) (I5 : σ5 → zq_P) (b1 : zq_P → zq_P → zq_P → zq_P → zq_P → zq_P) (b2 : zq_P → zq_P → zq_P → zq_P → zq_P → zq_P) (b3 : zq_P → zq_P → zq_P → zq_P → zq_P → zq_P) (b4 : zq_P → zq_P → zq_P → zq_P → zq_P → zq_P) (b5 : zq_P → zq_P → zq_P → zq_P → zq_P → zq_P) (s1 : ∀ {J1 J2 J3 J4 J5 : zq_P}, zq_ok X nL pc1 J1 → zq_ok X nL pc2 J2 → zq_ok X nL pc3 J3 → zq_ok X nL pc4 J4 → zq_ok X nL pc5 J5 → zq_ok X nL pc1 (b1 J1 J2 J3 J4 J5)) (s2 : ∀ {J1 J2 J3 J4 J5 : zq_P}, zq_ok X nL pc1 J1 → zq_ok X nL pc2 J2 → zq_ok X nL pc3 J3 → zq_ok X nL pc4 J4 → zq_ok X nL pc5 J5 → zq_ok X nL pc2 (b2 J1 J2 J3 J4 J5)) (s3 : ∀ {J1 J2 J3 J4 J5 : zq_P}, zq_ok X nL pc1 J1 → zq_ok X nL pc2 J2 → zq_ok X nL pc3 J3 → zq_ok X nL pc4 J4 → zq_ok X nL pc5 J5 → zq_ok X nL pc3 (b3 J1 J2 J3 J4 J5)) (s4 : ∀ {J1 J2 J3 J4 J5 : zq_P}, zq_ok X nL pc1 J1 → zq_ok X nL pc2 J2 → zq_ok X nL pc3 J3 → zq_ok X nL pc4 J4 → zq_ok X nL pc5 J5 → zq_ok X nL pc4 (b4 J1 J2 J3 J4 J5)) (s5 : ∀ {J1 J2 J3 J4 J5 : zq_P}, zq_ok X nL pc1 J1 → zq_ok X nL pc2 J2 → zq_ok X nL pc3 J3 → zq_ok X nL pc4 J4 → zq_ok X nL pc5 J5 → zq_ok X nL pc5 (b5 J1 J2 J3 J4 J5)) (v1 : ∀ a ls st h, I1 a ls st h → b1 (fun ls st h => ∃ b, μ1 b < μ1 a ∧ I1 b ls st h) (fun ls st h => ∃ b, μ2 b < μ1 a ∧ I2 b ls st h) (fun ls st h => ∃ b, μ3 b < μ1 a ∧ I3 b ls st h) (fun ls st h => ∃ b, μ4 b < μ1 a ∧ I4 b ls st h) (fun ls st h => ∃ b, μ5 b < μ1 a ∧ I5 b ls st h) ls st h) (v2 : ∀ a ls st h, I2 a ls st h → b2 (fun ls st h => ∃ b, μ1 b < μ2 a ∧ I1 b ls st h) (fun ls st h => ∃ b, μ2 b < μ2 a ∧ I2 b ls st h) (fun ls st h => ∃ b, μ3 b < μ2 a ∧ I3 b ls st h) (fun ls st h => ∃ b, μ4 b < μ2 a ∧ I4 b ls st h) (fun ls st h => ∃ b, μ5 b < μ2 a ∧ I5 b ls st h) ls st h) (v3 : ∀ a ls st h, I3 a ls st h → b3 (fun ls st h => ∃ b, μ1 b < μ3 a ∧ I1 b ls st h) (fun ls st h => ∃ b, μ2 b < μ3 a ∧ I2 b ls st h) (fun ls st h => ∃ b, μ3 b < μ3 a ∧ I3 b ls st h) (fun ls st h => ∃ b, μ4 b < μ3 a ∧ I4 b ls st h) (fun ls st h => ∃ b, μ5 b < μ3 a ∧ I5 b ls st h) ls st h) (v4 : ∀ a ls st h, I4 a ls st h → b4 (fun ls st h => ∃ b, μ1 b < μ4 a ∧ I1 b ls st h) (fun ls st h => ∃ b, μ2 b < μ4 a ∧ I2 b ls st h) (fun ls st h => ∃ b, μ3 b < μ4 a ∧ I3 b ls st h) (fun ls st h => ∃ b, μ4 b < μ4 a ∧ I4 b ls st h) (fun ls st h => ∃ b, μ5 b < μ4 a ∧ I5 b ls st h) ls st h) (v5 : ∀ a ls st h, I5 a ls st h → b5 (fun ls st h => ∃ b, μ1 b < μ5 a ∧ I1 b ls st h) (fun ls st h => ∃ b, μ2 b < μ5 a ∧ I2 b ls st h) (fun ls st h => ∃ b, μ3 b < μ5 a ∧ I3 b ls st h) (fun ls st h => ∃ b, μ4 b < μ5 a ∧ I4 b ls st h) (fun ls st h => ∃ b, μ5 b < μ5 a ∧ I5 b ls st h) ls st h)  : zq_ok X nL pc1 (fun ls st h => ∃ a, I1 a ls st h) ∧ zq_ok X nL pc2 (fun ls st h => ∃ a, I2 a ls st h) ∧ zq_ok X nL pc3 (fun ls st h => ∃ a, I3 a ls st h) ∧ zq_ok X nL pc4 (fun ls st h => ∃ a, I4 a ls st h) ∧ zq_ok X nL pc5 (fun ls st h => ∃ a, I5 a ls st h) := by
  have key : ∀ n : Nat, (∀ a, μ1 a < n → zq_ok X nL pc1 (I1 a)) ∧ (∀ a, μ2 a < n → zq_ok X nL pc2 (I2 a)) ∧ (∀ a, μ3 a < n → zq_ok X nL pc3 (I3 a)) ∧ (∀ a, μ4 a < n → zq_ok X nL pc4 (I4 a)) ∧ (∀ a, μ5 a < n → zq_ok X nL pc5 (I5 a)) := by
    intro n
    induction n with
    | zero => exact ⟨fun a h => absurd h (Nat.not_lt_zero _), fun a h => absurd h (Nat.not_lt_zero _), fun a h => absurd h (Nat.not_lt_zero _), fun a h => absurd h (Nat.not_lt_zero _), fun a h => absurd h (Nat.not_lt_zero _)⟩
    | succ n ih =>
      obtain ⟨ih1, ih2, ih3, ih4, ih5⟩ := ih
      have lift : ∀ {σ : Type} {pc : Nat} (μ : σ → Nat) (I : σ → zq_P) (m : Nat), m ≤ n → (∀ a, μ a < n → zq_ok X nL pc (I a)) → zq_ok X nL pc (fun ls st h => ∃ b, μ b < m ∧ I b ls st h) := by
        intro σ pc μ I m hm hi
        obtain ⟨p, l, e, R, s, m9, args, below, meth, c, D, Y, ad, A, kc, kn, Z⟩ := X
        intro ls st h H locs a' hP
        obtain ⟨b, hb, hI⟩ := hP
        exact hi b (by omega) ls st h H locs a' hI
      exact ⟨fun a ha => (s1 (lift μ1 I1 (μ1 a) (by omega) ih1) (lift μ2 I2 (μ1 a) (by omega) ih2) (lift μ3 I3 (μ1 a) (by omega) ih3) (lift μ4 I4 (μ1 a) (by omega) ih4) (lift μ5 I5 (μ1 a) (by omega) ih5)).mono (v1 a), fun a ha => (s2 (lift μ1 I1 (μ2 a) (by omega) ih1) (lift μ2 I2 (μ2 a) (by omega) ih2) (lift μ3 I3 (μ2 a) (by omega) ih3) (lift μ4 I4 (μ2 a) (by omega) ih4) (lift μ5 I5 (μ2 a) (by omega) ih5)).mono (v2 a), fun a ha => (s3 (lift μ1 I1 (μ3 a) (by omega) ih1) (lift μ2 I2 (μ3 a) (by omega) ih2) (lift μ3 I3 (μ3 a) (by omega) ih3) (lift μ4 I4 (μ3 a) (by omega) ih4) (lift μ5 I5 (μ3 a) (by omega) ih5)).mono (v3 a), fun a ha => (s4 (lift μ1 I1 (μ4 a) (by omega) ih1) (lift μ2 I2 (μ4 a) (by omega) ih2) (lift μ3 I3 (μ4 a) (by omega) ih3) (lift μ4 I4 (μ4 a) (by omega) ih4) (lift μ5 I5 (μ4 a) (by omega) ih5)).mono (v4 a), fun a ha => (s5 (lift μ1 I1 (μ5 a) (by omega) ih1) (lift μ2 I2 (μ5 a) (by omega) ih2) (lift μ3 I3 (μ5 a) (by omega) ih3) (lift μ4 I4 (μ5 a) (by omega) ih4) (lift μ5 I5 (μ5 a) (by omega) ih5)).mono (v5 a)⟩
  have lift : ∀ {σ : Type} {pc : Nat} (μ : σ → Nat) (I : σ → zq_P), (∀ n a, μ a < n → zq_ok X nL pc (I a)) → zq_ok X nL pc (fun ls st h => ∃ b, I b ls st h) := by
    intro σ pc μ I hi
    obtain ⟨p, l, e, R, s, m9, args, below, meth, c, D, Y, ad, A, kc, kn, Z⟩ := X
    intro ls st h H locs a' hP
    obtain ⟨b, hI⟩ := hP
    exact hi (μ b + 1) b (Nat.lt_succ_self _) ls st h H locs a' hI
  exact ⟨lift μ1 I1 (fun n => (key n).1), lift μ2 I2 (fun n => (key n).2.1), lift μ3 I3 (fun n => (key n).2.2.1), lift μ4 I4 (fun n => (key n).2.2.2.1), lift μ5 I5 (fun n => (key n).2.2.2.2)⟩

theorem zq_loop6 {X : zq_X} {nL : Nat} {pc1 : Nat} {σ1 : Type} {pc2 : Nat} {σ2 : Type} {pc3 : Nat} {σ3 : Type} {pc4 : Nat} {σ4 : Type} {pc5 : Nat} {σ5 : Type} {pc6 : Nat} {σ6 : Type} (μ1 : σ1 → Nat) (μ2 : σ2 → Nat) (μ3 : σ3 → Nat) (μ4 : σ4 → Nat) (μ5 : σ5 → Nat) (μ6 : σ6 → Nat) (I1 : σ1 → zq_P) (I2 : σ2 → zq_P) (I3 : σ3 → zq_P) (I4 : σ4 → zq_P) (I5 : σ5 → zq_P) (I6 : σ6 → zq_P) (b1 : zq_P → zq_P → zq_P → zq_P → zq_P → zq_P → zq_P) (b2 : zq_P → zq_P → zq_P → zq_P → zq_P → zq_P → zq_P) (b3 : zq_P → zq_P → zq_P → zq_P → zq_P → zq_P → zq_P) (b4 : zq_P → zq_P → zq_P → zq_P → zq_P → zq_P → zq_P) (b5 : zq_P → zq_P → zq_P → zq_P → zq_P → zq_P → zq_P) (b6 : zq_P → zq_P → zq_P → zq_P → zq_P → zq_P → zq_P) (s1 : ∀ {J1 J2 J3 J4 J5 J6 : zq_P}, zq_ok X nL pc1 J1 → zq_ok X nL pc2 J2 → zq_ok X nL pc3 J3 → zq_ok X nL pc4 J4 → zq_ok X nL pc5 J5 → zq_ok X nL pc6 J6 → zq_ok X nL pc1 (b1 J1 J2 J3 J4 J5 J6)) (s2 : ∀ {J1 J2 J3 J4 J5 J6 : zq_P}, zq_ok X nL pc1 J1 → zq_ok X nL pc2 J2 → zq_ok X nL pc3 J3 → zq_ok X nL pc4 J4 → zq_ok X nL pc5 J5 → zq_ok X nL pc6 J6 → zq_ok X nL pc2 (b2 J1 J2 J3 J4 J5 J6)) (s3 : ∀ {J1 J2 J3 J4 J5 J6 : zq_P}, zq_ok X nL pc1 J1 → zq_ok X nL pc2 J2 → zq_ok X nL pc3 J3 → zq_ok X nL pc4 J4 → zq_ok X nL pc5 J5 → zq_ok X nL pc6 J6 → zq_ok X nL pc3 (b3 J1 J2 J3 J4 J5 J6)) (s4 : ∀ {J1 J2 J3 J4 J5 J6 : zq_P}, zq_ok X nL pc1 J1 → zq_ok X nL pc2 J2 → zq_ok X nL pc3 J3 → zq_ok X nL pc4 J4 → zq_ok X nL pc5 J5 → zq_ok X nL pc6 J6 → zq_ok X nL pc4 (b4 J1 J2 J3 J4 J5 J6)) (s5 : ∀ {J1 J2 J3 J4 J5 J6 : zq_P}, zq_ok X nL pc1 J1 → zq_ok X nL pc2 J2 → zq_ok X nL pc3 J3 → zq_ok X nL pc4 J4 → zq_ok X nL pc5 J5 → zq_ok X nL pc6 J6 → zq_ok X nL pc5 (b5 J1 J2 J3 J4 J5 J6)) (s6 : ∀ {J1 J2 J3 J4 J5 J6 : zq_P}, zq_ok X nL pc1 J1 → zq_ok X nL pc2 J2 → zq_ok X nL pc3 J3 → zq_ok X nL pc4 J4 → zq_ok X nL pc5 J5 → zq_ok X nL pc6 J6 → zq_ok X nL pc6 (b6 J1 J2 J3 J4 J5 J6)) (v1 : ∀ a ls st h, I1 a ls st h → b1 (fun ls st h => ∃ b, μ1 b < μ1 a ∧ I1 b ls st h) (fun ls st h => ∃ b, μ2 b < μ1 a ∧ I2 b ls st h) (fun ls st h => ∃ b, μ3 b < μ1 a ∧ I3 b ls st h) (fun ls st h => ∃ b, μ4 b < μ1 a ∧ I4 b ls st h) (fun ls st h => ∃ b, μ5 b < μ1 a ∧ I5 b ls st h) (fun ls st h => ∃ b, μ6 b < μ1 a ∧ I6 b ls st h) ls st h) (v2 : ∀ a ls st h, I2 a ls st h → b2 (fun ls st h => ∃ b, μ1 b < μ2 a ∧ I1 b ls st h) (fun ls st h => ∃ b, μ2 b < μ2 a ∧ I2 b ls st h) (fun ls st h => ∃ b, μ3 b < μ2 a ∧ I3 b ls st h) (fun ls st h => ∃ b, μ4 b < μ2 a ∧ I4 b ls st h) (fun ls st h => ∃ b, μ5 b < μ2 a ∧ I5 b ls st h) (fun ls st h => ∃ b, μ6 b < μ2 a ∧ I6 b ls st h) ls st h) (v3 : ∀ a ls st h, I3 a ls st h → b3 (fun ls st h => ∃ b, μ1 b < μ3 a ∧ I1 b ls st h) (fun ls st h => ∃ b, μ2 b < μ3 a ∧ I2 b ls st h) (fun ls st h => ∃ b, μ3 b < μ3 a ∧ I3 b ls st h) (fun ls st h => ∃ b, μ4 b < μ3 a ∧ I4 b ls st h) (fun ls st h => ∃ b, μ5 b < μ3 a ∧ I5 b ls st h) (fun ls st h => ∃ b, μ6 b < μ3 a ∧ I6 b ls st h) ls st h) (v4 : ∀ a ls st h, I4 a ls st h → b4 (fun ls st h => ∃ b, μ1 b < μ4 a ∧ I1 b ls st h) (fun ls st h => ∃ b, μ2 b < μ4 a ∧ I2 b ls st h) (fun ls st h => ∃ b, μ3 b < μ4 a ∧ I3 b ls st h) (fun ls st h => ∃ b, μ4 b < μ4 a ∧ I4 b ls st h) (fun ls st h => ∃ b, μ5 b < μ4 a ∧ I5 b ls st h) (fun ls st h => ∃ b, μ6 b < μ4 a ∧ I6 b ls st h) ls st h) (v5 : ∀ a ls st h, I5 a ls st h → b5 (fun ls st h => ∃ b, μ1 b < μ5 a ∧ I1 b ls st h) (fun ls st h => ∃ b, μ2 b < μ5 a ∧ I2 b ls st h) (fun ls st h => ∃ b, μ3 b < μ5 a ∧ I3 b ls st h) (fun ls st h => ∃ b, μ4 b < μ5 a ∧ I4 b ls st h) (fun ls st h => ∃ b, μ5 b < μ5 a ∧ I5 b ls st h) (fun ls st h => ∃ b, μ6 b < μ5 a ∧ I6 b ls st h) ls st h) (v6 : ∀ a ls st h, I6 a ls st h → b6 (fun ls st h => ∃ b, μ1 b < μ6 a ∧ I1 b ls st h) (fun ls st h => ∃ b, μ2 b < μ6 a ∧ I2 b ls st h) (fun ls st h => ∃ b, μ3 b < μ6 a ∧ I3 b ls st h) (fun ls st h => ∃ b, μ4 b < μ6 a ∧ I4 b ls st h) (fun ls st h => ∃ b, μ5 b < μ6 a ∧ I5 b ls st h) (fun ls st h => ∃ b, μ6 b < μ6 a ∧ I6 b ls st h) ls st h)  : zq_ok X nL pc1 (fun ls st h => ∃ a, I1 a ls st h) ∧ zq_ok X nL pc2 (fun ls st h => ∃ a, I2 a ls st h) ∧ zq_ok X nL pc3 (fun ls st h => ∃ a, I3 a ls st h) ∧ zq_ok X nL pc4 (fun ls st h => ∃ a, I4 a ls st h) ∧ zq_ok X nL pc5 (fun ls st h => ∃ a, I5 a ls st h) ∧ zq_ok X nL pc6 (fun ls st h => ∃ a, I6 a ls st h) := by
  have key : ∀ n : Nat, (∀ a, μ1 a < n → zq_ok X nL pc1 (I1 a)) ∧ (∀ a, μ2 a < n → zq_ok X nL pc2 (I2 a)) ∧ (∀ a, μ3 a < n → zq_ok X nL pc3 (I3 a)) ∧ (∀ a, μ4 a < n → zq_ok X nL pc4 (I4 a)) ∧ (∀ a, μ5 a < n → zq_ok X nL pc5 (I5 a)) ∧ (∀ a, μ6 a < n → zq_ok X nL pc6 (I6 a)) := by
    intro n
    induction n with
    | zero => exact ⟨fun a h => absurd h (Nat.not_lt_zero _), fun a h => absurd h (Nat.not_lt_zero _), fun a h => absurd h (Nat.not_lt_zero _), fun a h => absurd h (Nat.not_lt_zero _), fun a h => absurd h (Nat.not_lt_zero _), fun a h => absurd h (Nat.not_lt_zero _)⟩
    | succ n ih =>
      obtain ⟨ih1, ih2, ih3, ih4, ih5, ih6⟩ := ih
      have lift : ∀ {σ : Type} {pc : Nat} (μ : σ → Nat) (I : σ → zq_P) (m : Nat), m ≤ n → (∀ a, μ a < n → zq_ok X nL pc (I a)) → zq_ok X nL pc (fun ls st h => ∃ b, μ b < m ∧ I b ls st h) := by
        intro σ pc μ I m hm hi
        obtain ⟨p, l, e, R, s, m9, args, below, meth, c, D, Y, ad, A, kc, kn, Z⟩ := X
        intro ls st h H locs a' hP
        obtain ⟨b, hb, hI⟩ := hP
        exact hi b (by omega) ls st h H locs a' hI
      exact ⟨fun a ha => (s1 (lift μ1 I1 (μ1 a) (by omega) ih1) (lift μ2 I2 (μ1 a) (by omega) ih2) (lift μ3 I3 (μ1 a) (by omega) ih3) (lift μ4 I4 (μ1 a) (by omega) ih4) (lift μ5 I5 (μ1 a) (by omega) ih5) (lift μ6 I6 (μ1 a) (by omega) ih6)).mono (v1 a), fun a ha => (s2 (lift μ1 I1 (μ2 a) (by omega) ih1) (lift μ2 I2 (μ2 a) (by omega) ih2) (lift μ3 I3 (μ2 a) (by omega) ih3) (lift μ4 I4 (μ2 a) (by omega) ih4) (lift μ5 I5 (μ2 a) (by omega) ih5) (lift μ6 I6 (μ2 a) (by omega) ih6)).mono (v2 a), fun a ha => (s3 (lift μ1 I1 (μ3 a) (by omega) ih1) (lift μ2 I2 (μ3 a) (by omega) ih2) (lift μ3 I3 (μ3 a) (by omega) ih3) (lift μ4 I4 (μ3 a) (by omega) ih4) (lift μ5 I5 (μ3 a) (by omega) ih5) (lift μ6 I6 (μ3 a) (by omega) ih6)).mono (v3 a), fun a ha => (s4 (lift μ1 I1 (μ4 a) (by omega) ih1) (lift μ2 I2 (μ4 a) (by omega) ih2) (lift μ3 I3 (μ4 a) (by omega) ih3) (lift μ4 I4 (μ4 a) (by omega) ih4) (lift μ5 I5 (μ4 a) (by omega) ih5) (lift μ6 I6 (μ4 a) (by omega) ih6)).mono (v4 a), fun a ha => (s5 (lift μ1 I1 (μ5 a) (by omega) ih1) (lift μ2 I2 (μ5 a) (by omega) ih2) (lift μ3 I3 (μ5 a) (by omega) ih3) (lift μ4 I4 (μ5 a) (by omega) ih4) (lift μ5 I5 (μ5 a) (by omega) ih5) (lift μ6 I6 (μ5 a) (by omega) ih6)).mono (v5 a), fun a ha => (s6 (lift μ1 I1 (μ6 a) (by omega) ih1) (lift μ2 I2 (μ6 a) (by omega) ih2) (lift μ3 I3 (μ6 a) (by omega) ih3) (lift μ4 I4 (μ6 a) (by omega) ih4) (lift μ5 I5 (μ6 a) (by omega) ih5) (lift μ6 I6 (μ6 a) (by omega) ih6)).mono (v6 a)⟩
  have lift : ∀ {σ : Type} {pc : Nat} (μ : σ → Nat) (I : σ → zq_P), (∀ n a, μ a < n → zq_ok X nL pc (I a)) → zq_ok X nL pc (fun ls st h => ∃ b, I b ls st h) := by
    intro σ pc μ I hi
    obtain ⟨p, l, e, R, s, m9, args, below, meth, c, D, Y, ad, A, kc, kn, Z⟩ := X
    intro ls st h H locs a' hP
    obtain ⟨b, hI⟩ := hP
    exact hi (μ b + 1) b (Nat.lt_succ_self _) ls st h H locs a' hI
  exact ⟨lift μ1 I1 (fun n => (key n).1), lift μ2 I2 (fun n => (key n).2.1), lift μ3 I3 (fun n => (key n).2.2.1), lift μ4 I4 (fun n => (key n).2.2.2.1), lift μ5 I5 (fun n => (key n).2.2.2.2.1), lift μ6 I6 (fun n => (key n).2.2.2.2.2)⟩

