/-! every method is in order -/
theorem xz_ok0_0 : xz_okr 0 0 40 = true := by decide +kernel
theorem xz_ok0_40 : xz_okr 0 40 40 = true := by decide +kernel
theorem xz_ok0_80 : xz_okr 0 80 40 = true := by decide +kernel
theorem xz_ok0_120 : xz_okr 0 120 40 = true := by decide +kernel
theorem xz_ok0_160 : xz_okr 0 160 40 = true := by decide +kernel
theorem xz_ok0_200 : xz_okr 0 200 40 = true := by decide +kernel
theorem xz_ok0_240 : xz_okr 0 240 40 = true := by decide +kernel
theorem xz_ok0_280 : xz_okr 0 280 40 = true := by decide +kernel
theorem xz_ok0_320 : xz_okr 0 320 40 = true := by decide +kernel
theorem xz_ok0_360 : xz_okr 0 360 40 = true := by decide +kernel
theorem xz_ok0_400 : xz_okr 0 400 40 = true := by decide +kernel
theorem xz_ok0_440 : xz_okr 0 440 40 = true := by decide +kernel
theorem xz_ok0_480 : xz_okr 0 480 40 = true := by decide +kernel
theorem xz_ok0_520 : xz_okr 0 520 40 = true := by decide +kernel
theorem xz_ok0_560 : xz_okr 0 560 40 = true := by decide +kernel
theorem xz_ok0_600 : xz_okr 0 600 40 = true := by decide +kernel
theorem xz_ok0_640 : xz_okr 0 640 40 = true := by decide +kernel
theorem xz_ok0_680 : xz_okr 0 680 40 = true := by decide +kernel
theorem xz_ok0_720 : xz_okr 0 720 40 = true := by decide +kernel
theorem xz_ok0_760 : xz_okr 0 760 40 = true := by decide +kernel
theorem xz_ok0_800 : xz_okr 0 800 40 = true := by decide +kernel
theorem xz_ok0_840 : xz_okr 0 840 40 = true := by decide +kernel
theorem xz_ok0_880 : xz_okr 0 880 40 = true := by decide +kernel
theorem xz_ok_0 : xz_okm 0 = true := by
  unfold xz_okm
  refine xz_okr_split _ _ 40 xz_ok0_0 ?_
  refine xz_okr_split _ _ 40 xz_ok0_40 ?_
  rw [List.drop_drop]
  refine xz_okr_split _ _ 40 xz_ok0_80 ?_
  rw [List.drop_drop]
  refine xz_okr_split _ _ 40 xz_ok0_120 ?_
  rw [List.drop_drop]
  refine xz_okr_split _ _ 40 xz_ok0_160 ?_
  rw [List.drop_drop]
  refine xz_okr_split _ _ 40 xz_ok0_200 ?_
  rw [List.drop_drop]
  refine xz_okr_split _ _ 40 xz_ok0_240 ?_
  rw [List.drop_drop]
  refine xz_okr_split _ _ 40 xz_ok0_280 ?_
  rw [List.drop_drop]
  refine xz_okr_split _ _ 40 xz_ok0_320 ?_
  rw [List.drop_drop]
  refine xz_okr_split _ _ 40 xz_ok0_360 ?_
  rw [List.drop_drop]
  refine xz_okr_split _ _ 40 xz_ok0_400 ?_
  rw [List.drop_drop]
  refine xz_okr_split _ _ 40 xz_ok0_440 ?_
  rw [List.drop_drop]
  refine xz_okr_split _ _ 40 xz_ok0_480 ?_
  rw [List.drop_drop]
  refine xz_okr_split _ _ 40 xz_ok0_520 ?_
  rw [List.drop_drop]
  refine xz_okr_split _ _ 40 xz_ok0_560 ?_
  rw [List.drop_drop]
  refine xz_okr_split _ _ 40 xz_ok0_600 ?_
  rw [List.drop_drop]
  refine xz_okr_split _ _ 40 xz_ok0_640 ?_
  rw [List.drop_drop]
  refine xz_okr_split _ _ 40 xz_ok0_680 ?_
  rw [List.drop_drop]
  refine xz_okr_split _ _ 40 xz_ok0_720 ?_
  rw [List.drop_drop]
  refine xz_okr_split _ _ 40 xz_ok0_760 ?_
  rw [List.drop_drop]
  refine xz_okr_split _ _ 40 xz_ok0_800 ?_
  rw [List.drop_drop]
  refine xz_okr_split _ _ 40 xz_ok0_840 ?_
  rw [List.drop_drop]
  have h := xz_ok0_880
  unfold xz_okr at h
  rw [List.take_of_length_le] at h
  · exact h
  · decide +kernel
theorem xz_ok_1 : xz_okm 1 = true := by decide +kernel
theorem xz_ok_2 : xz_okm 2 = true := by decide +kernel
theorem xz_ok_3 : xz_okm 3 = true := by decide +kernel
theorem xz_ok_4 : xz_okm 4 = true := by decide +kernel
theorem xz_ok_5 : xz_okm 5 = true := by decide +kernel
theorem xz_ok_6 : xz_okm 6 = true := by decide +kernel
theorem xz_ok_7 : xz_okm 7 = true := by decide +kernel
theorem xz_ok_8 : xz_okm 8 = true := by decide +kernel
theorem xz_ok_9 : xz_okm 9 = true := by decide +kernel
theorem xz_ok_10 : xz_okm 10 = true := by decide +kernel
theorem xz_ok_11 : xz_okm 11 = true := by decide +kernel
theorem xz_ok_12 : xz_okm 12 = true := by decide +kernel
theorem xz_ok_13 : xz_okm 13 = true := by decide +kernel
theorem xz_ok_14 : xz_okm 14 = true := by decide +kernel
theorem xz_ok_15 : xz_okm 15 = true := by decide +kernel
theorem xz_ok_16 : xz_okm 16 = true := by decide +kernel
theorem xz_ok_17 : xz_okm 17 = true := by decide +kernel
theorem xz_ok_18 : xz_okm 18 = true := by decide +kernel
theorem xz_ok_19 : xz_okm 19 = true := by decide +kernel
theorem xz_ok_20 : xz_okm 20 = true := by decide +kernel
theorem xz_ok_21 : xz_okm 21 = true := by decide +kernel
theorem xz_ok_22 : xz_okm 22 = true := by decide +kernel
theorem xz_ok_23 : xz_okm 23 = true := by decide +kernel
theorem xz_ok_24 : xz_okm 24 = true := by decide +kernel
theorem xz_ok_25 : xz_okm 25 = true := by decide +kernel
theorem xz_ok_26 : xz_okm 26 = true := by decide +kernel
theorem xz_ok_27 : xz_okm 27 = true := by decide +kernel
theorem xz_ok_28 : xz_okm 28 = true := by decide +kernel
theorem xz_ok_29 : xz_okm 29 = true := by decide +kernel
theorem xz_ok_30 : xz_okm 30 = true := by decide +kernel
theorem xz_ok_31 : xz_okm 31 = true := by decide +kernel
theorem xz_ok_32 : xz_okm 32 = true := by decide +kernel
theorem xz_ok_33 : xz_okm 33 = true := by decide +kernel
theorem xz_ok_34 : xz_okm 34 = true := by decide +kernel
theorem xz_ok_35 : xz_okm 35 = true := by decide +kernel
theorem xz_ok_36 : xz_okm 36 = true := by decide +kernel
theorem xz_ok_37 : xz_okm 37 = true := by decide +kernel
theorem xz_ok_38 : xz_okm 38 = true := by decide +kernel
theorem xz_ok_39 : xz_okm 39 = true := by decide +kernel
theorem xz_ok_40 : xz_okm 40 = true := by decide +kernel
theorem xz_ok_41 : xz_okm 41 = true := by decide +kernel
theorem xz_ok_42 : xz_okm 42 = true := by decide +kernel
theorem xz_ok_43 : xz_okm 43 = true := by decide +kernel
theorem xz_ok_44 : xz_okm 44 = true := by decide +kernel
theorem xz_ok_45 : xz_okm 45 = true := by decide +kernel
theorem xz_ok_46 : xz_okm 46 = true := by decide +kernel
theorem xz_ok_47 : xz_okm 47 = true := by decide +kernel
theorem xz_ok_48 : xz_okm 48 = true := by decide +kernel
theorem xz_ok_49 : xz_okm 49 = true := by decide +kernel
theorem xz_ok_50 : xz_okm 50 = true := by decide +kernel
theorem xz_ok_51 : xz_okm 51 = true := by decide +kernel
theorem xz_ok_52 : xz_okm 52 = true := by decide +kernel
theorem xz_ok_53 : xz_okm 53 = true := by decide +kernel
theorem xz_ok_54 : xz_okm 54 = true := by decide +kernel
theorem xz_ok_55 : xz_okm 55 = true := by decide +kernel
theorem xz_ok_56 : xz_okm 56 = true := by decide +kernel
theorem xz_ok_57 : xz_okm 57 = true := by decide +kernel
theorem xz_ok_58 : xz_okm 58 = true := by decide +kernel
theorem xz_ok_59 : xz_okm 59 = true := by decide +kernel
theorem xz_ok_60 : xz_okm 60 = true := by decide +kernel
theorem xz_ok_61 : xz_okm 61 = true := by decide +kernel
theorem xz_ok_62 : xz_okm 62 = true := by decide +kernel
theorem xz_ok_63 : xz_okm 63 = true := by decide +kernel
theorem xz_ok_64 : xz_okm 64 = true := by decide +kernel
theorem xz_ok_65 : xz_okm 65 = true := by decide +kernel
theorem xz_ok_66 : xz_okm 66 = true := by decide +kernel
theorem xz_ok_67 : xz_okm 67 = true := by decide +kernel
theorem xz_ok_68 : xz_okm 68 = true := by decide +kernel
theorem xz_ok_69 : xz_okm 69 = true := by decide +kernel
theorem xz_ok_70 : xz_okm 70 = true := by decide +kernel
theorem xz_ok_71 : xz_okm 71 = true := by decide +kernel
theorem xz_ok_72 : xz_okm 72 = true := by decide +kernel
theorem xz_ok_73 : xz_okm 73 = true := by decide +kernel
theorem xz_ok_74 : xz_okm 74 = true := by decide +kernel
theorem xz_ok_75 : xz_okm 75 = true := by decide +kernel
theorem xz_ok_76 : xz_okm 76 = true := by decide +kernel
theorem xz_ok_77 : xz_okm 77 = true := by decide +kernel
theorem xz_ok_78 : xz_okm 78 = true := by decide +kernel
theorem xz_ok_79 : xz_okm 79 = true := by decide +kernel
theorem xz_ok_80 : xz_okm 80 = true := by decide +kernel
theorem xz_ok_81 : xz_okm 81 = true := by decide +kernel
theorem xz_ok_82 : xz_okm 82 = true := by decide +kernel
theorem xz_ok_83 : xz_okm 83 = true := by decide +kernel
theorem xz_ok_84 : xz_okm 84 = true := by decide +kernel
theorem xz_ok_85 : xz_okm 85 = true := by decide +kernel
theorem xz_ok_86 : xz_okm 86 = true := by decide +kernel
theorem xz_ok_87 : xz_okm 87 = true := by decide +kernel
theorem xz_ok_88 : xz_okm 88 = true := by decide +kernel
theorem xz_ok_89 : xz_okm 89 = true := by decide +kernel
theorem xz_ok_90 : xz_okm 90 = true := by decide +kernel
theorem xz_ok_91 : xz_okm 91 = true := by decide +kernel
theorem xz_ok_92 : xz_okm 92 = true := by decide +kernel
theorem xz_ok_93 : xz_okm 93 = true := by decide +kernel
theorem xz_ok_94 : xz_okm 94 = true := by decide +kernel
theorem xz_ok_95 : xz_okm 95 = true := by decide +kernel
theorem xz_ok_96 : xz_okm 96 = true := by decide +kernel
theorem xz_ok_97 : xz_okm 97 = true := by decide +kernel
theorem xz_ok_98 : xz_okm 98 = true := by decide +kernel
theorem xz_ok_99 : xz_okm 99 = true := by decide +kernel
theorem xz_ok_100 : xz_okm 100 = true := by decide +kernel
theorem xz_ok_101 : xz_okm 101 = true := by decide +kernel
theorem xz_ok_102 : xz_okm 102 = true := by decide +kernel
theorem xz_ok_103 : xz_okm 103 = true := by decide +kernel
theorem xz_ok_104 : xz_okm 104 = true := by decide +kernel
theorem xz_ok_105 : xz_okm 105 = true := by decide +kernel
theorem xz_ok_106 : xz_okm 106 = true := by decide +kernel
theorem xz_ok_107 : xz_okm 107 = true := by decide +kernel
theorem xz_ok_108 : xz_okm 108 = true := by decide +kernel
theorem xz_ok_109 : xz_okm 109 = true := by decide +kernel
theorem xz_ok_110 : xz_okm 110 = true := by decide +kernel
theorem xz_ok_111 : xz_okm 111 = true := by decide +kernel
theorem xz_ok_112 : xz_okm 112 = true := by decide +kernel
theorem xz_ok_113 : xz_okm 113 = true := by decide +kernel
theorem xz_ok_114 : xz_okm 114 = true := by decide +kernel
theorem xz_ok_115 : xz_okm 115 = true := by decide +kernel
theorem xz_ok_116 : xz_okm 116 = true := by decide +kernel
theorem xz_ok_117 : xz_okm 117 = true := by decide +kernel
theorem xz_ok_118 : xz_okm 118 = true := by decide +kernel
theorem xz_ok_119 : xz_okm 119 = true := by decide +kernel
theorem xz_ok_120 : xz_okm 120 = true := by decide +kernel
theorem xz_ok_121 : xz_okm 121 = true := by decide +kernel
theorem xz_ok_122 : xz_okm 122 = true := by decide +kernel
theorem xz_ok_123 : xz_okm 123 = true := by decide +kernel
theorem xz_ok_124 : xz_okm 124 = true := by decide +kernel
theorem xz_ok_125 : xz_okm 125 = true := by decide +kernel
theorem xz_ok_126 : xz_okm 126 = true := by decide +kernel
theorem xz_ok_127 : xz_okm 127 = true := by decide +kernel
theorem xz_ok_128 : xz_okm 128 = true := by decide +kernel
theorem xz_ok_129 : xz_okm 129 = true := by decide +kernel
theorem xz_ok_130 : xz_okm 130 = true := by decide +kernel
theorem xz_ok_131 : xz_okm 131 = true := by decide +kernel
theorem xz_ok_132 : xz_okm 132 = true := by decide +kernel
theorem xz_ok_133 : xz_okm 133 = true := by decide +kernel
theorem xz_ok_134 : xz_okm 134 = true := by decide +kernel
theorem xz_ok_135 : xz_okm 135 = true := by decide +kernel
theorem xz_ok_136 : xz_okm 136 = true := by decide +kernel
theorem xz_ok_137 : xz_okm 137 = true := by decide +kernel
theorem xz_ok_138 : xz_okm 138 = true := by decide +kernel
theorem xz_ok_139 : xz_okm 139 = true := by decide +kernel
theorem xz_ok_140 : xz_okm 140 = true := by decide +kernel
theorem xz_ok_141 : xz_okm 141 = true := by decide +kernel
theorem xz_ok_142 : xz_okm 142 = true := by decide +kernel
theorem xz_ok_143 : xz_okm 143 = true := by decide +kernel
theorem xz_ok_144 : xz_okm 144 = true := by decide +kernel
theorem xz_ok_145 : xz_okm 145 = true := by decide +kernel
theorem xz_ok_146 : xz_okm 146 = true := by decide +kernel
theorem xz_ok_147 : xz_okm 147 = true := by decide +kernel
theorem xz_ok_148 : xz_okm 148 = true := by decide +kernel
theorem xz_ok_149 : xz_okm 149 = true := by decide +kernel
theorem xz_ok_150 : xz_okm 150 = true := by decide +kernel
theorem xz_ok_151 : xz_okm 151 = true := by decide +kernel
theorem xz_ok_152 : xz_okm 152 = true := by decide +kernel
theorem xz_ok_153 : xz_okm 153 = true := by decide +kernel
theorem xz_ok_154 : xz_okm 154 = true := by decide +kernel
theorem xz_ok_155 : xz_okm 155 = true := by decide +kernel
theorem xz_ok_156 : xz_okm 156 = true := by decide +kernel
theorem xz_ok_157 : xz_okm 157 = true := by decide +kernel
theorem xz_ok_158 : xz_okm 158 = true := by decide +kernel
theorem xz_ok_159 : xz_okm 159 = true := by decide +kernel
theorem xz_ok_160 : xz_okm 160 = true := by decide +kernel
theorem xz_ok_161 : xz_okm 161 = true := by decide +kernel
theorem xz_ok_162 : xz_okm 162 = true := by decide +kernel
theorem xz_ok_163 : xz_okm 163 = true := by decide +kernel
theorem xz_ok_164 : xz_okm 164 = true := by decide +kernel
theorem xz_ok_165 : xz_okm 165 = true := by decide +kernel
theorem xz_ok_166 : xz_okm 166 = true := by decide +kernel
theorem xz_ok_167 : xz_okm 167 = true := by decide +kernel
theorem xz_ok_168 : xz_okm 168 = true := by decide +kernel
theorem xz_ok_169 : xz_okm 169 = true := by decide +kernel
theorem xz_ok_170 : xz_okm 170 = true := by decide +kernel
theorem xz_ok_171 : xz_okm 171 = true := by decide +kernel
theorem xz_ok_172 : xz_okm 172 = true := by decide +kernel
theorem xz_ok_173 : xz_okm 173 = true := by decide +kernel
theorem xz_ok_174 : xz_okm 174 = true := by decide +kernel
theorem xz_ok_175 : xz_okm 175 = true := by decide +kernel
theorem xz_ok_176 : xz_okm 176 = true := by decide +kernel
theorem xz_ok_177 : xz_okm 177 = true := by decide +kernel
theorem xz_ok_178 : xz_okm 178 = true := by decide +kernel
theorem xz_ok_179 : xz_okm 179 = true := by decide +kernel
theorem xz_ok_180 : xz_okm 180 = true := by decide +kernel
theorem xz_ok_181 : xz_okm 181 = true := by decide +kernel
theorem xz_ok_182 : xz_okm 182 = true := by decide +kernel
theorem xz_ok_183 : xz_okm 183 = true := by decide +kernel
theorem xz_ok_184 : xz_okm 184 = true := by decide +kernel
theorem xz_ok_185 : xz_okm 185 = true := by decide +kernel
theorem xz_ok_186 : xz_okm 186 = true := by decide +kernel
theorem xz_ok_187 : xz_okm 187 = true := by decide +kernel
theorem xz_ok_188 : xz_okm 188 = true := by decide +kernel
theorem xz_ok_189 : xz_okm 189 = true := by decide +kernel
theorem xz_ok_190 : xz_okm 190 = true := by decide +kernel
theorem xz_ok_191 : xz_okm 191 = true := by decide +kernel
theorem xz_ok_192 : xz_okm 192 = true := by decide +kernel
theorem xz_ok_193 : xz_okm 193 = true := by decide +kernel
theorem xz_ok_194 : xz_okm 194 = true := by decide +kernel
theorem xz_ok_195 : xz_okm 195 = true := by decide +kernel
theorem xz_ok_196 : xz_okm 196 = true := by decide +kernel
theorem xz_ok_197 : xz_okm 197 = true := by decide +kernel
theorem xz_ok_198 : xz_okm 198 = true := by decide +kernel
theorem xz_ok_199 : xz_okm 199 = true := by decide +kernel
set_option maxRecDepth 100000 in
theorem xz_okl : ∀ y ∈ ([0, 1, 2, 3, 4, 5, 6, 7, 8, 9, 10, 11, 12, 13, 14, 15, 16, 17, 18, 19, 20, 21, 22, 23, 24, 25, 26, 27, 28, 29, 30, 31, 32, 33, 34, 35, 36, 37, 38, 39, 40, 41, 42, 43, 44, 45, 46, 47, 48, 49, 50, 51, 52, 53, 54, 55, 56, 57, 58, 59, 60, 61, 62, 63, 64, 65, 66, 67, 68, 69, 70, 71, 72, 73, 74, 75, 76, 77, 78, 79, 80, 81, 82, 83, 84, 85, 86, 87, 88, 89, 90, 91, 92, 93, 94, 95, 96, 97, 98, 99, 100, 101, 102, 103, 104, 105, 106, 107, 108, 109, 110, 111, 112, 113, 114, 115, 116, 117, 118, 119, 120, 121, 122, 123, 124, 125, 126, 127, 128, 129, 130, 131, 132, 133, 134, 135, 136, 137, 138, 139, 140, 141, 142, 143, 144, 145, 146, 147, 148, 149, 150, 151, 152, 153, 154, 155, 156, 157, 158, 159, 160, 161, 162, 163, 164, 165, 166, 167, 168, 169, 170, 171, 172, 173, 174, 175, 176, 177, 178, 179, 180, 181, 182, 183, 184, 185, 186, 187, 188, 189, 190, 191, 192, 193, 194, 195, 196, 197, 198, 199] : List Nat), xz_okm y = true := List.forall_mem_cons.mpr ⟨xz_ok_0, List.forall_mem_cons.mpr ⟨xz_ok_1, List.forall_mem_cons.mpr ⟨xz_ok_2, List.forall_mem_cons.mpr ⟨xz_ok_3, List.forall_mem_cons.mpr ⟨xz_ok_4, List.forall_mem_cons.mpr ⟨xz_ok_5, List.forall_mem_cons.mpr ⟨xz_ok_6, List.forall_mem_cons.mpr ⟨xz_ok_7, List.forall_mem_cons.mpr ⟨xz_ok_8, List.forall_mem_cons.mpr ⟨xz_ok_9, List.forall_mem_cons.mpr ⟨xz_ok_10, List.forall_mem_cons.mpr ⟨xz_ok_11, List.forall_mem_cons.mpr ⟨xz_ok_12, List.forall_mem_cons.mpr ⟨xz_ok_13, List.forall_mem_cons.mpr ⟨xz_ok_14, List.forall_mem_cons.mpr ⟨xz_ok_15, List.forall_mem_cons.mpr ⟨xz_ok_16, List.forall_mem_cons.mpr ⟨xz_ok_17, List.forall_mem_cons.mpr ⟨xz_ok_18, List.forall_mem_cons.mpr ⟨xz_ok_19, List.forall_mem_cons.mpr ⟨xz_ok_20, List.forall_mem_cons.mpr ⟨xz_ok_21, List.forall_mem_cons.mpr ⟨xz_ok_22, List.forall_mem_cons.mpr ⟨xz_ok_23, List.forall_mem_cons.mpr ⟨xz_ok_24, List.forall_mem_cons.mpr ⟨xz_ok_25, List.forall_mem_cons.mpr ⟨xz_ok_26, List.forall_mem_cons.mpr ⟨xz_ok_27, List.forall_mem_cons.mpr ⟨xz_ok_28, List.forall_mem_cons.mpr ⟨xz_ok_29, List.forall_mem_cons.mpr ⟨xz_ok_30, List.forall_mem_cons.mpr ⟨xz_ok_31, List.forall_mem_cons.mpr ⟨xz_ok_32, List.forall_mem_cons.mpr ⟨xz_ok_33, List.forall_mem_cons.mpr ⟨xz_ok_34, List.forall_mem_cons.mpr ⟨xz_ok_35, List.forall_mem_cons.mpr ⟨xz_ok_36, List.forall_mem_cons.mpr ⟨xz_ok_37, List.forall_mem_cons.mpr ⟨xz_ok_38, List.forall_mem_cons.mpr ⟨xz_ok_39, List.forall_mem_cons.mpr ⟨xz_ok_40, List.forall_mem_cons.mpr ⟨xz_ok_41, List.forall_mem_cons.mpr ⟨xz_ok_42, List.forall_mem_cons.mpr ⟨xz_ok_43, List.forall_mem_cons.mpr ⟨xz_ok_44, List.forall_mem_cons.mpr ⟨xz_ok_45, List.forall_mem_cons.mpr ⟨xz_ok_46, List.forall_mem_cons.mpr ⟨xz_ok_47, List.forall_mem_cons.mpr ⟨xz_ok_48, List.forall_mem_cons.mpr ⟨xz_ok_49, List.forall_mem_cons.mpr ⟨xz_ok_50, List.forall_mem_cons.mpr ⟨xz_ok_51, List.forall_mem_cons.mpr ⟨xz_ok_52, List.forall_mem_cons.mpr ⟨xz_ok_53, List.forall_mem_cons.mpr ⟨xz_ok_54, List.forall_mem_cons.mpr ⟨xz_ok_55, List.forall_mem_cons.mpr ⟨xz_ok_56, List.forall_mem_cons.mpr ⟨xz_ok_57, List.forall_mem_cons.mpr ⟨xz_ok_58, List.forall_mem_cons.mpr ⟨xz_ok_59, List.forall_mem_cons.mpr ⟨xz_ok_60, List.forall_mem_cons.mpr ⟨xz_ok_61, List.forall_mem_cons.mpr ⟨xz_ok_62, List.forall_mem_cons.mpr ⟨xz_ok_63, List.forall_mem_cons.mpr ⟨xz_ok_64, List.forall_mem_cons.mpr ⟨xz_ok_65, List.forall_mem_cons.mpr ⟨xz_ok_66, List.forall_mem_cons.mpr ⟨xz_ok_67, List.forall_mem_cons.mpr ⟨xz_ok_68, List.forall_mem_cons.mpr ⟨xz_ok_69, List.forall_mem_cons.mpr ⟨xz_ok_70, List.forall_mem_cons.mpr ⟨xz_ok_71, List.forall_mem_cons.mpr ⟨xz_ok_72, List.forall_mem_cons.mpr ⟨xz_ok_73, List.forall_mem_cons.mpr ⟨xz_ok_74, List.forall_mem_cons.mpr ⟨xz_ok_75, List.forall_mem_cons.mpr ⟨xz_ok_76, List.forall_mem_cons.mpr ⟨xz_ok_77, List.forall_mem_cons.mpr ⟨xz_ok_78, List.forall_mem_cons.mpr ⟨xz_ok_79, List.forall_mem_cons.mpr ⟨xz_ok_80, List.forall_mem_cons.mpr ⟨xz_ok_81, List.forall_mem_cons.mpr ⟨xz_ok_82, List.forall_mem_cons.mpr ⟨xz_ok_83, List.forall_mem_cons.mpr ⟨xz_ok_84, List.forall_mem_cons.mpr ⟨xz_ok_85, List.forall_mem_cons.mpr ⟨xz_ok_86, List.forall_mem_cons.mpr ⟨xz_ok_87, List.forall_mem_cons.mpr ⟨xz_ok_88, List.forall_mem_cons.mpr ⟨xz_ok_89, List.forall_mem_cons.mpr ⟨xz_ok_90, List.forall_mem_cons.mpr ⟨xz_ok_91, List.forall_mem_cons.mpr ⟨xz_ok_92, List.forall_mem_cons.mpr ⟨xz_ok_93, List.forall_mem_cons.mpr ⟨xz_ok_94, List.forall_mem_cons.mpr ⟨xz_ok_95, List.forall_mem_cons.mpr ⟨xz_ok_96, List.forall_mem_cons.mpr ⟨xz_ok_97, List.forall_mem_cons.mpr ⟨xz_ok_98, List.forall_mem_cons.mpr ⟨xz_ok_99, List.forall_mem_cons.mpr ⟨xz_ok_100, List.forall_mem_cons.mpr ⟨xz_ok_101, List.forall_mem_cons.mpr ⟨xz_ok_102, List.forall_mem_cons.mpr ⟨xz_ok_103, List.forall_mem_cons.mpr ⟨xz_ok_104, List.forall_mem_cons.mpr ⟨xz_ok_105, List.forall_mem_cons.mpr ⟨xz_ok_106, List.forall_mem_cons.mpr ⟨xz_ok_107, List.forall_mem_cons.mpr ⟨xz_ok_108, List.forall_mem_cons.mpr ⟨xz_ok_109, List.forall_mem_cons.mpr ⟨xz_ok_110, List.forall_mem_cons.mpr ⟨xz_ok_111, List.forall_mem_cons.mpr ⟨xz_ok_112, List.forall_mem_cons.mpr ⟨xz_ok_113, List.forall_mem_cons.mpr ⟨xz_ok_114, List.forall_mem_cons.mpr ⟨xz_ok_115, List.forall_mem_cons.mpr ⟨xz_ok_116, List.forall_mem_cons.mpr ⟨xz_ok_117, List.forall_mem_cons.mpr ⟨xz_ok_118, List.forall_mem_cons.mpr ⟨xz_ok_119, List.forall_mem_cons.mpr ⟨xz_ok_120, List.forall_mem_cons.mpr ⟨xz_ok_121, List.forall_mem_cons.mpr ⟨xz_ok_122, List.forall_mem_cons.mpr ⟨xz_ok_123, List.forall_mem_cons.mpr ⟨xz_ok_124, List.forall_mem_cons.mpr ⟨xz_ok_125, List.forall_mem_cons.mpr ⟨xz_ok_126, List.forall_mem_cons.mpr ⟨xz_ok_127, List.forall_mem_cons.mpr ⟨xz_ok_128, List.forall_mem_cons.mpr ⟨xz_ok_129, List.forall_mem_cons.mpr ⟨xz_ok_130, List.forall_mem_cons.mpr ⟨xz_ok_131, List.forall_mem_cons.mpr ⟨xz_ok_132, List.forall_mem_cons.mpr ⟨xz_ok_133, List.forall_mem_cons.mpr ⟨xz_ok_134, List.forall_mem_cons.mpr ⟨xz_ok_135, List.forall_mem_cons.mpr ⟨xz_ok_136, List.forall_mem_cons.mpr ⟨xz_ok_137, List.forall_mem_cons.mpr ⟨xz_ok_138, List.forall_mem_cons.mpr ⟨xz_ok_139, List.forall_mem_cons.mpr ⟨xz_ok_140, List.forall_mem_cons.mpr ⟨xz_ok_141, List.forall_mem_cons.mpr ⟨xz_ok_142, List.forall_mem_cons.mpr ⟨xz_ok_143, List.forall_mem_cons.mpr ⟨xz_ok_144, List.forall_mem_cons.mpr ⟨xz_ok_145, List.forall_mem_cons.mpr ⟨xz_ok_146, List.forall_mem_cons.mpr ⟨xz_ok_147, List.forall_mem_cons.mpr ⟨xz_ok_148, List.forall_mem_cons.mpr ⟨xz_ok_149, List.forall_mem_cons.mpr ⟨xz_ok_150, List.forall_mem_cons.mpr ⟨xz_ok_151, List.forall_mem_cons.mpr ⟨xz_ok_152, List.forall_mem_cons.mpr ⟨xz_ok_153, List.forall_mem_cons.mpr ⟨xz_ok_154, List.forall_mem_cons.mpr ⟨xz_ok_155, List.forall_mem_cons.mpr ⟨xz_ok_156, List.forall_mem_cons.mpr ⟨xz_ok_157, List.forall_mem_cons.mpr ⟨xz_ok_158, List.forall_mem_cons.mpr ⟨xz_ok_159, List.forall_mem_cons.mpr ⟨xz_ok_160, List.forall_mem_cons.mpr ⟨xz_ok_161, List.forall_mem_cons.mpr ⟨xz_ok_162, List.forall_mem_cons.mpr ⟨xz_ok_163, List.forall_mem_cons.mpr ⟨xz_ok_164, List.forall_mem_cons.mpr ⟨xz_ok_165, List.forall_mem_cons.mpr ⟨xz_ok_166, List.forall_mem_cons.mpr ⟨xz_ok_167, List.forall_mem_cons.mpr ⟨xz_ok_168, List.forall_mem_cons.mpr ⟨xz_ok_169, List.forall_mem_cons.mpr ⟨xz_ok_170, List.forall_mem_cons.mpr ⟨xz_ok_171, List.forall_mem_cons.mpr ⟨xz_ok_172, List.forall_mem_cons.mpr ⟨xz_ok_173, List.forall_mem_cons.mpr ⟨xz_ok_174, List.forall_mem_cons.mpr ⟨xz_ok_175, List.forall_mem_cons.mpr ⟨xz_ok_176, List.forall_mem_cons.mpr ⟨xz_ok_177, List.forall_mem_cons.mpr ⟨xz_ok_178, List.forall_mem_cons.mpr ⟨xz_ok_179, List.forall_mem_cons.mpr ⟨xz_ok_180, List.forall_mem_cons.mpr ⟨xz_ok_181, List.forall_mem_cons.mpr ⟨xz_ok_182, List.forall_mem_cons.mpr ⟨xz_ok_183, List.forall_mem_cons.mpr ⟨xz_ok_184, List.forall_mem_cons.mpr ⟨xz_ok_185, List.forall_mem_cons.mpr ⟨xz_ok_186, List.forall_mem_cons.mpr ⟨xz_ok_187, List.forall_mem_cons.mpr ⟨xz_ok_188, List.forall_mem_cons.mpr ⟨xz_ok_189, List.forall_mem_cons.mpr ⟨xz_ok_190, List.forall_mem_cons.mpr ⟨xz_ok_191, List.forall_mem_cons.mpr ⟨xz_ok_192, List.forall_mem_cons.mpr ⟨xz_ok_193, List.forall_mem_cons.mpr ⟨xz_ok_194, List.forall_mem_cons.mpr ⟨xz_ok_195, List.forall_mem_cons.mpr ⟨xz_ok_196, List.forall_mem_cons.mpr ⟨xz_ok_197, List.forall_mem_cons.mpr ⟨xz_ok_198, List.forall_mem_cons.mpr ⟨xz_ok_199, fun _ h => absurd h List.not_mem_nil⟩⟩⟩⟩⟩⟩⟩⟩⟩⟩⟩⟩⟩⟩⟩⟩⟩⟩⟩⟩⟩⟩⟩⟩⟩⟩⟩⟩⟩⟩⟩⟩⟩⟩⟩⟩⟩⟩⟩⟩⟩⟩⟩⟩⟩⟩⟩⟩⟩⟩⟩⟩⟩⟩⟩⟩⟩⟩⟩⟩⟩⟩⟩⟩⟩⟩⟩⟩⟩⟩⟩⟩⟩⟩⟩⟩⟩⟩⟩⟩⟩⟩⟩⟩⟩⟩⟩⟩⟩⟩⟩⟩⟩⟩⟩⟩⟩⟩⟩⟩⟩⟩⟩⟩⟩⟩⟩⟩⟩⟩⟩⟩⟩⟩⟩⟩⟩⟩⟩⟩⟩⟩⟩⟩⟩⟩⟩⟩⟩⟩⟩⟩⟩⟩⟩⟩⟩⟩⟩⟩⟩⟩⟩⟩⟩⟩⟩⟩⟩⟩⟩⟩⟩⟩⟩⟩⟩⟩⟩⟩⟩⟩⟩⟩⟩⟩⟩⟩⟩⟩⟩⟩⟩⟩⟩⟩⟩⟩⟩⟩⟩⟩⟩⟩⟩⟩⟩⟩⟩⟩⟩⟩⟩⟩⟩⟩⟩⟩⟩⟩
theorem xz_okall (w : Nat) (h : w < 200) : xz_okm w = true := by
  refine xz_okl w ?_
  have e : ([0, 1, 2, 3, 4, 5, 6, 7, 8, 9, 10, 11, 12, 13, 14, 15, 16, 17, 18, 19, 20, 21, 22, 23, 24, 25, 26, 27, 28, 29, 30, 31, 32, 33, 34, 35, 36, 37, 38, 39, 40, 41, 42, 43, 44, 45, 46, 47, 48, 49, 50, 51, 52, 53, 54, 55, 56, 57, 58, 59, 60, 61, 62, 63, 64, 65, 66, 67, 68, 69, 70, 71, 72, 73, 74, 75, 76, 77, 78, 79, 80, 81, 82, 83, 84, 85, 86, 87, 88, 89, 90, 91, 92, 93, 94, 95, 96, 97, 98, 99, 100, 101, 102, 103, 104, 105, 106, 107, 108, 109, 110, 111, 112, 113, 114, 115, 116, 117, 118, 119, 120, 121, 122, 123, 124, 125, 126, 127, 128, 129, 130, 131, 132, 133, 134, 135, 136, 137, 138, 139, 140, 141, 142, 143, 144, 145, 146, 147, 148, 149, 150, 151, 152, 153, 154, 155, 156, 157, 158, 159, 160, 161, 162, 163, 164, 165, 166, 167, 168, 169, 170, 171, 172, 173, 174, 175, 176, 177, 178, 179, 180, 181, 182, 183, 184, 185, 186, 187, 188, 189, 190, 191, 192, 193, 194, 195, 196, 197, 198, 199] : List Nat) = List.range' 0 200 := by decide +kernel
  rw [e, List.mem_range'_1]
  omega
