/-! ===== the picture's numbers ===== -/
theorem e_1_0 (kp : Nat) : sh_E kp 1 0 = 2 := rfl
theorem e_1_1 (kp : Nat) : sh_E kp 1 1 = 40 := rfl
theorem e_1_2 (kp : Nat) : sh_E kp 1 2 = 91 := rfl
theorem e_1_3 (kp : Nat) : sh_E kp 1 3 = 110 := rfl
theorem e_1_4 (kp : Nat) : sh_E kp 1 4 = 112 := rfl
theorem e_1_5 (kp : Nat) : sh_E kp 1 5 = 124 := rfl
theorem e_2_0 (kp : Nat) : sh_E kp 2 0 = 3 := rfl
theorem e_2_1 (kp : Nat) : sh_E kp 2 1 = 11 := rfl
theorem e_2_2 (kp : Nat) : sh_E kp 2 2 = 13 := rfl
theorem e_2_3 (kp : Nat) : sh_E kp 2 3 = 27 := rfl
theorem e_3_7 (kp : Nat) : sh_E kp 3 7 = 4 := rfl
theorem e_3_8 (kp : Nat) : sh_E kp 3 8 = 5 := rfl
theorem e_3_9 (kp : Nat) : sh_E kp 3 9 = 6 := rfl
theorem e_3_10 (kp : Nat) : sh_E kp 3 10 = 7 := rfl
theorem e_3_11 (kp : Nat) : sh_E kp 3 11 = 8 := rfl
theorem e_3_12 (kp : Nat) : sh_E kp 3 12 = 9 := rfl
theorem e_3_13 (kp : Nat) : sh_E kp 3 13 = 10 := rfl
theorem e_11_2 (kp : Nat) : sh_E kp 11 2 = 12 := rfl
theorem e_13_0 (kp : Nat) : sh_E kp 13 0 = 14 := rfl
theorem e_13_1 (kp : Nat) : sh_E kp 13 1 = 21 := rfl
theorem e_13_2 (kp : Nat) : sh_E kp 13 2 = 23 := rfl
theorem e_13_3 (kp : Nat) : sh_E kp 13 3 = 25 := rfl
theorem e_14_2 (kp : Nat) : sh_E kp 14 2 = 15 := rfl
theorem e_14_3 (kp : Nat) : sh_E kp 14 3 = 16 := rfl
theorem e_14_4 (kp : Nat) : sh_E kp 14 4 = 17 := rfl
theorem e_14_5 (kp : Nat) : sh_E kp 14 5 = 18 := rfl
theorem e_14_6 (kp : Nat) : sh_E kp 14 6 = 19 := rfl
theorem e_14_7 (kp : Nat) : sh_E kp 14 7 = 20 := rfl
theorem e_21_2 (kp : Nat) : sh_E kp 21 2 = 22 := rfl
theorem e_23_2 (kp : Nat) : sh_E kp 23 2 = 24 := rfl
theorem e_25_2 (kp : Nat) : sh_E kp 25 2 = 26 := rfl
theorem e_27_0 (kp : Nat) : sh_E kp 27 0 = 28 := rfl
theorem e_27_1 (kp : Nat) : sh_E kp 27 1 = 30 := rfl
theorem e_27_2 (kp : Nat) : sh_E kp 27 2 = 32 := rfl
theorem e_27_3 (kp : Nat) : sh_E kp 27 3 = 34 := rfl
theorem e_27_4 (kp : Nat) : sh_E kp 27 4 = 36 := rfl
theorem e_27_5 (kp : Nat) : sh_E kp 27 5 = 38 := rfl
theorem e_27_6 (kp : Nat) : sh_E kp 27 6 = 39 := rfl
theorem e_28_2 (kp : Nat) : sh_E kp 28 2 = 29 := rfl
theorem e_30_2 (kp : Nat) : sh_E kp 30 2 = 31 := rfl
theorem e_32_2 (kp : Nat) : sh_E kp 32 2 = 33 := rfl
theorem e_34_2 (kp : Nat) : sh_E kp 34 2 = 35 := rfl
theorem e_36_2 (kp : Nat) : sh_E kp 36 2 = 37 := rfl
theorem e_40_2 (kp : Nat) : sh_E kp 40 2 = 41 := rfl
theorem e_40_3 (kp : Nat) : sh_E kp 40 3 = 42 := rfl
theorem e_41_0 (kp : Nat) : sh_E kp 41 0 = 43 := rfl
theorem e_41_1 (kp : Nat) : sh_E kp 41 1 = 51 := rfl
theorem e_41_2 (kp : Nat) : sh_E kp 41 2 = 59 := rfl
theorem e_41_3 (kp : Nat) : sh_E kp 41 3 = 67 := rfl
theorem e_41_4 (kp : Nat) : sh_E kp 41 4 = 75 := rfl
theorem e_41_5 (kp : Nat) : sh_E kp 41 5 = 83 := rfl
theorem e_43_7 (kp : Nat) : sh_E kp 43 7 = 44 := rfl
theorem e_43_8 (kp : Nat) : sh_E kp 43 8 = 45 := rfl
theorem e_43_9 (kp : Nat) : sh_E kp 43 9 = 46 := rfl
theorem e_43_10 (kp : Nat) : sh_E kp 43 10 = 47 := rfl
theorem e_43_11 (kp : Nat) : sh_E kp 43 11 = 48 := rfl
theorem e_43_12 (kp : Nat) : sh_E kp 43 12 = 49 := rfl
theorem e_43_13 (kp : Nat) : sh_E kp 43 13 = 50 := rfl
theorem e_51_7 (kp : Nat) : sh_E kp 51 7 = 52 := rfl
theorem e_51_8 (kp : Nat) : sh_E kp 51 8 = 53 := rfl
theorem e_51_9 (kp : Nat) : sh_E kp 51 9 = 54 := rfl
theorem e_51_10 (kp : Nat) : sh_E kp 51 10 = 55 := rfl
theorem e_51_11 (kp : Nat) : sh_E kp 51 11 = 56 := rfl
theorem e_51_12 (kp : Nat) : sh_E kp 51 12 = 57 := rfl
theorem e_51_13 (kp : Nat) : sh_E kp 51 13 = 58 := rfl
theorem e_59_7 (kp : Nat) : sh_E kp 59 7 = 60 := rfl
theorem e_59_8 (kp : Nat) : sh_E kp 59 8 = 61 := rfl
theorem e_59_9 (kp : Nat) : sh_E kp 59 9 = 62 := rfl
theorem e_59_10 (kp : Nat) : sh_E kp 59 10 = 63 := rfl
theorem e_59_11 (kp : Nat) : sh_E kp 59 11 = 64 := rfl
theorem e_59_12 (kp : Nat) : sh_E kp 59 12 = 65 := rfl
theorem e_59_13 (kp : Nat) : sh_E kp 59 13 = 66 := rfl
theorem e_67_7 (kp : Nat) : sh_E kp 67 7 = 68 := rfl
theorem e_67_8 (kp : Nat) : sh_E kp 67 8 = 69 := rfl
theorem e_67_9 (kp : Nat) : sh_E kp 67 9 = 70 := rfl
theorem e_67_10 (kp : Nat) : sh_E kp 67 10 = 71 := rfl
theorem e_67_11 (kp : Nat) : sh_E kp 67 11 = 72 := rfl
theorem e_67_12 (kp : Nat) : sh_E kp 67 12 = 73 := rfl
theorem e_67_13 (kp : Nat) : sh_E kp 67 13 = 74 := rfl
theorem e_75_7 (kp : Nat) : sh_E kp 75 7 = 76 := rfl
theorem e_75_8 (kp : Nat) : sh_E kp 75 8 = 77 := rfl
theorem e_75_9 (kp : Nat) : sh_E kp 75 9 = 78 := rfl
theorem e_75_10 (kp : Nat) : sh_E kp 75 10 = 79 := rfl
theorem e_75_11 (kp : Nat) : sh_E kp 75 11 = 80 := rfl
theorem e_75_12 (kp : Nat) : sh_E kp 75 12 = 81 := rfl
theorem e_75_13 (kp : Nat) : sh_E kp 75 13 = 82 := rfl
theorem e_83_7 (kp : Nat) : sh_E kp 83 7 = 84 := rfl
theorem e_83_8 (kp : Nat) : sh_E kp 83 8 = 85 := rfl
theorem e_83_9 (kp : Nat) : sh_E kp 83 9 = 86 := rfl
theorem e_83_10 (kp : Nat) : sh_E kp 83 10 = 87 := rfl
theorem e_83_11 (kp : Nat) : sh_E kp 83 11 = 88 := rfl
theorem e_83_12 (kp : Nat) : sh_E kp 83 12 = 89 := rfl
theorem e_83_13 (kp : Nat) : sh_E kp 83 13 = 90 := rfl
theorem e_91_0 (kp : Nat) : sh_E kp 91 0 = 92 := rfl
theorem e_91_4 (kp : Nat) : sh_E kp 91 4 = 106 := rfl
theorem e_91_5 (kp : Nat) : sh_E kp 91 5 = 107 := rfl
theorem e_91_6 (kp : Nat) : sh_E kp 91 6 = 108 := rfl
theorem e_91_7 (kp : Nat) : sh_E kp 91 7 = 109 := rfl
theorem e_92_0 (kp : Nat) : sh_E kp 92 0 = 93 := rfl
theorem e_92_1 (kp : Nat) : sh_E kp 92 1 = 100 := rfl
theorem e_92_2 (kp : Nat) : sh_E kp 92 2 = 102 := rfl
theorem e_92_3 (kp : Nat) : sh_E kp 92 3 = 104 := rfl
theorem e_93_2 (kp : Nat) : sh_E kp 93 2 = 94 := rfl
theorem e_93_3 (kp : Nat) : sh_E kp 93 3 = 95 := rfl
theorem e_93_4 (kp : Nat) : sh_E kp 93 4 = 96 := rfl
theorem e_93_5 (kp : Nat) : sh_E kp 93 5 = 97 := rfl
theorem e_93_6 (kp : Nat) : sh_E kp 93 6 = 98 := rfl
theorem e_93_7 (kp : Nat) : sh_E kp 93 7 = 99 := rfl
theorem e_100_2 (kp : Nat) : sh_E kp 100 2 = 101 := rfl
theorem e_102_2 (kp : Nat) : sh_E kp 102 2 = 103 := rfl
theorem e_104_2 (kp : Nat) : sh_E kp 104 2 = 105 := rfl
theorem e_110_0 (kp : Nat) : sh_E kp 110 0 = 3 := rfl
theorem e_110_1 (kp : Nat) : sh_E kp 110 1 = 11 := rfl
theorem e_110_2 (kp : Nat) : sh_E kp 110 2 = 13 := rfl
theorem e_110_3 (kp : Nat) : sh_E kp 110 3 = 111 := rfl
theorem e_112_0 (kp : Nat) : sh_E kp 112 0 = 113 := rfl
theorem e_112_1 (kp : Nat) : sh_E kp 112 1 = 121 := rfl
theorem e_112_2 (kp : Nat) : sh_E kp 112 2 = 13 := rfl
theorem e_112_3 (kp : Nat) : sh_E kp 112 3 = 123 := rfl
theorem e_113_7 (kp : Nat) : sh_E kp 113 7 = 114 := rfl
theorem e_113_8 (kp : Nat) : sh_E kp 113 8 = 115 := rfl
theorem e_113_9 (kp : Nat) : sh_E kp 113 9 = 116 := rfl
theorem e_113_10 (kp : Nat) : sh_E kp 113 10 = 117 := rfl
theorem e_113_11 (kp : Nat) : sh_E kp 113 11 = 118 := rfl
theorem e_113_12 (kp : Nat) : sh_E kp 113 12 = 119 := rfl
theorem e_113_13 (kp : Nat) : sh_E kp 113 13 = 120 := rfl
theorem e_121_2 (kp : Nat) : sh_E kp 121 2 = 122 := rfl
theorem e_124_0 (kp : Nat) : sh_E kp 124 0 = 3 := rfl
theorem e_124_1 (kp : Nat) : sh_E kp 124 1 = 13 := rfl
theorem e_124_2 (kp : Nat) : sh_E kp 124 2 = 27 := rfl
theorem e_124_3 (kp : Nat) : sh_E kp 124 3 = 125 := rfl
theorem e_124_4 (kp : Nat) : sh_E kp 124 4 = 126 := rfl
theorem e_124_5 (kp : Nat) : sh_E kp 124 5 = 127 := rfl
theorem e_124_6 (kp : Nat) : sh_E kp 124 6 = 128 := rfl
theorem e_124_7 (kp : Nat) : sh_E kp 124 7 = 129 := rfl
theorem e_124_8 (kp : Nat) : sh_E kp 124 8 = 130 := rfl
theorem e_124_9 (kp : Nat) : sh_E kp 124 9 = 131 := rfl
theorem e_132_1 (kp : Nat) : sh_E kp 132 1 = 133 := rfl
theorem e_132_2 (kp : Nat) : sh_E kp 132 2 = 134 := rfl
theorem e_132_4 (kp : Nat) : sh_E kp 132 4 = 135 := rfl
theorem e_132_6 (kp : Nat) : sh_E kp 132 6 = 136 := rfl
theorem e_132_8 (kp : Nat) : sh_E kp 132 8 = 137 := rfl
theorem e_132_9 (kp : Nat) : sh_E kp 132 9 = 138 := rfl
theorem e_132_10 (kp : Nat) : sh_E kp 132 10 = 139 := rfl
theorem e_132_11 (kp : Nat) : sh_E kp 132 11 = 140 := rfl
theorem e_132_12 (kp : Nat) : sh_E kp 132 12 = 141 := rfl
theorem e_132_18 (kp : Nat) : sh_E kp 132 18 = 142 := rfl
theorem e_132_19 (kp : Nat) : sh_E kp 132 19 = 143 := rfl
theorem e_132_20 (kp : Nat) : sh_E kp 132 20 = 144 := rfl
theorem e_132_21 (kp : Nat) : sh_E kp 132 21 = 145 := rfl
theorem e_132_22 (kp : Nat) : sh_E kp 132 22 = 146 := rfl
theorem e_132_23 (kp : Nat) : sh_E kp 132 23 = 147 := rfl
theorem e_132_24 (kp : Nat) : sh_E kp 132 24 = 148 := rfl
theorem e_132_25 (kp : Nat) : sh_E kp 132 25 = 149 := rfl
theorem e_132_29 (kp : Nat) : sh_E kp 132 29 = 150 := rfl
theorem e_132_36 (kp : Nat) : sh_E kp 132 36 = 151 := rfl
theorem e_132_38 (kp : Nat) : sh_E kp 132 38 = 152 := rfl
theorem e_132_40 (kp : Nat) : sh_E kp 132 40 = 153 := rfl
theorem e_132_41 (kp : Nat) : sh_E kp 132 41 = 154 := rfl
theorem e_132_42 (kp : Nat) : sh_E kp 132 42 = 155 := rfl
theorem e_132_44 (kp : Nat) : sh_E kp 132 44 = 156 := rfl
theorem e_132_46 (kp : Nat) : sh_E kp 132 46 = 157 := rfl
theorem e_132_47 (kp : Nat) : sh_E kp 132 47 = 158 := rfl
theorem e_132_49 (kp : Nat) : sh_E kp 132 49 = 159 := rfl
theorem e_132_50 (kp : Nat) : sh_E kp 132 50 = 160 := rfl
theorem e_132_51 (kp : Nat) : sh_E kp 132 51 = 161 := rfl
theorem e_132_52 (kp : Nat) : sh_E kp 132 52 = 162 := rfl
theorem e_132_54 (kp : Nat) : sh_E kp 132 54 = 163 := rfl
theorem e_132_55 (kp : Nat) : sh_E kp 132 55 = 164 := rfl
theorem e_132_56 (kp : Nat) : sh_E kp 132 56 = 165 := rfl
theorem e_132_58 (kp : Nat) : sh_E kp 132 58 = 166 := rfl
theorem e_132_60 (kp : Nat) : sh_E kp 132 60 = 167 := rfl
theorem e_132_61 (kp : Nat) : sh_E kp 132 61 = 168 := rfl
theorem e_132_62 (kp : Nat) : sh_E kp 132 62 = 169 := rfl
theorem e_132_66 (kp : Nat) : sh_E kp 132 66 = 170 := rfl
theorem e_171_0 (kp : Nat) : sh_E kp 171 0 = 172 := rfl
theorem e_171_1 (kp : Nat) : sh_E kp 171 1 = 180 := rfl
theorem e_171_2 (kp : Nat) : sh_E kp 171 2 = 182 := rfl
theorem e_171_3 (kp : Nat) : sh_E kp 171 3 = 196 := rfl
theorem e_172_7 (kp : Nat) : sh_E kp 172 7 = 173 := rfl
theorem e_172_8 (kp : Nat) : sh_E kp 172 8 = 174 := rfl
theorem e_172_9 (kp : Nat) : sh_E kp 172 9 = 175 := rfl
theorem e_172_10 (kp : Nat) : sh_E kp 172 10 = 176 := rfl
theorem e_172_11 (kp : Nat) : sh_E kp 172 11 = 177 := rfl
theorem e_172_12 (kp : Nat) : sh_E kp 172 12 = 178 := rfl
theorem e_172_13 (kp : Nat) : sh_E kp 172 13 = 179 := rfl
theorem e_180_2 (kp : Nat) : sh_E kp 180 2 = 181 := rfl
theorem e_182_0 (kp : Nat) : sh_E kp 182 0 = 183 := rfl
theorem e_182_1 (kp : Nat) : sh_E kp 182 1 = 190 := rfl
theorem e_182_2 (kp : Nat) : sh_E kp 182 2 = 192 := rfl
theorem e_182_3 (kp : Nat) : sh_E kp 182 3 = 194 := rfl
theorem e_183_2 (kp : Nat) : sh_E kp 183 2 = 184 := rfl
theorem e_183_3 (kp : Nat) : sh_E kp 183 3 = 185 := rfl
theorem e_183_4 (kp : Nat) : sh_E kp 183 4 = 186 := rfl
theorem e_183_5 (kp : Nat) : sh_E kp 183 5 = 187 := rfl
theorem e_183_6 (kp : Nat) : sh_E kp 183 6 = 188 := rfl
theorem e_183_7 (kp : Nat) : sh_E kp 183 7 = 189 := rfl
theorem e_190_2 (kp : Nat) : sh_E kp 190 2 = 191 := rfl
theorem e_192_2 (kp : Nat) : sh_E kp 192 2 = 193 := rfl
theorem e_194_2 (kp : Nat) : sh_E kp 194 2 = 195 := rfl
theorem e_196_0 (kp : Nat) : sh_E kp 196 0 = 197 := rfl
theorem e_196_1 (kp : Nat) : sh_E kp 196 1 = 199 := rfl
theorem e_196_2 (kp : Nat) : sh_E kp 196 2 = 201 := rfl
theorem e_196_3 (kp : Nat) : sh_E kp 196 3 = 203 := rfl
theorem e_196_4 (kp : Nat) : sh_E kp 196 4 = 205 := rfl
theorem e_196_5 (kp : Nat) : sh_E kp 196 5 = 207 := rfl
theorem e_196_6 (kp : Nat) : sh_E kp 196 6 = 208 := rfl
theorem e_197_2 (kp : Nat) : sh_E kp 197 2 = 198 := rfl
theorem e_199_2 (kp : Nat) : sh_E kp 199 2 = 200 := rfl
theorem e_201_2 (kp : Nat) : sh_E kp 201 2 = 202 := rfl
theorem e_203_2 (kp : Nat) : sh_E kp 203 2 = 204 := rfl
theorem e_205_2 (kp : Nat) : sh_E kp 205 2 = 206 := rfl
theorem l_4 : sh_L 4 = 8 := rfl
theorem l_5 : sh_L 5 = 8 := rfl
theorem l_6 : sh_L 6 = 10 := rfl
theorem l_7 : sh_L 7 = 10 := rfl
theorem l_8 : sh_L 8 = 10 := rfl
theorem l_9 : sh_L 9 = 10 := rfl
theorem l_10 : sh_L 10 = 10 := rfl
theorem l_12 : sh_L 12 = 600 := rfl
theorem l_15 : sh_L 15 = 16 := rfl
theorem l_16 : sh_L 16 = 16 := rfl
theorem l_17 : sh_L 17 = 16 := rfl
theorem l_18 : sh_L 18 = 16 := rfl
theorem l_19 : sh_L 19 = 400 := rfl
theorem l_20 : sh_L 20 = 40 := rfl
theorem l_22 : sh_L 22 = 48 := rfl
theorem l_24 : sh_L 24 = 48 := rfl
theorem l_26 : sh_L 26 = 48 := rfl
theorem l_29 : sh_L 29 = 30 := rfl
theorem l_31 : sh_L 31 = 18 := rfl
theorem l_33 : sh_L 33 = 48 := rfl
theorem l_35 : sh_L 35 = 72 := rfl
theorem l_37 : sh_L 37 = 60 := rfl
theorem l_38 : sh_L 38 = 80 := rfl
theorem l_39 : sh_L 39 = 10 := rfl
theorem l_41 : sh_L 41 = 6 := rfl
theorem l_42 : sh_L 42 = 6 := rfl
theorem l_44 : sh_L 44 = 8 := rfl
theorem l_45 : sh_L 45 = 8 := rfl
theorem l_46 : sh_L 46 = 10 := rfl
theorem l_47 : sh_L 47 = 10 := rfl
theorem l_48 : sh_L 48 = 10 := rfl
theorem l_49 : sh_L 49 = 10 := rfl
theorem l_50 : sh_L 50 = 10 := rfl
theorem l_52 : sh_L 52 = 8 := rfl
theorem l_53 : sh_L 53 = 8 := rfl
theorem l_54 : sh_L 54 = 10 := rfl
theorem l_55 : sh_L 55 = 10 := rfl
theorem l_56 : sh_L 56 = 10 := rfl
theorem l_57 : sh_L 57 = 10 := rfl
theorem l_58 : sh_L 58 = 10 := rfl
theorem l_60 : sh_L 60 = 8 := rfl
theorem l_61 : sh_L 61 = 8 := rfl
theorem l_62 : sh_L 62 = 10 := rfl
theorem l_63 : sh_L 63 = 10 := rfl
theorem l_64 : sh_L 64 = 10 := rfl
theorem l_65 : sh_L 65 = 10 := rfl
theorem l_66 : sh_L 66 = 10 := rfl
theorem l_68 : sh_L 68 = 8 := rfl
theorem l_69 : sh_L 69 = 8 := rfl
theorem l_70 : sh_L 70 = 10 := rfl
theorem l_71 : sh_L 71 = 10 := rfl
theorem l_72 : sh_L 72 = 10 := rfl
theorem l_73 : sh_L 73 = 10 := rfl
theorem l_74 : sh_L 74 = 10 := rfl
theorem l_76 : sh_L 76 = 8 := rfl
theorem l_77 : sh_L 77 = 8 := rfl
theorem l_78 : sh_L 78 = 10 := rfl
theorem l_79 : sh_L 79 = 10 := rfl
theorem l_80 : sh_L 80 = 10 := rfl
theorem l_81 : sh_L 81 = 10 := rfl
theorem l_82 : sh_L 82 = 10 := rfl
theorem l_84 : sh_L 84 = 8 := rfl
theorem l_85 : sh_L 85 = 8 := rfl
theorem l_86 : sh_L 86 = 10 := rfl
theorem l_87 : sh_L 87 = 10 := rfl
theorem l_88 : sh_L 88 = 10 := rfl
theorem l_89 : sh_L 89 = 10 := rfl
theorem l_90 : sh_L 90 = 10 := rfl
theorem l_94 : sh_L 94 = 16 := rfl
theorem l_95 : sh_L 95 = 16 := rfl
theorem l_96 : sh_L 96 = 16 := rfl
theorem l_97 : sh_L 97 = 16 := rfl
theorem l_98 : sh_L 98 = 400 := rfl
theorem l_99 : sh_L 99 = 40 := rfl
theorem l_101 : sh_L 101 = 48 := rfl
theorem l_103 : sh_L 103 = 48 := rfl
theorem l_105 : sh_L 105 = 48 := rfl
theorem l_106 : sh_L 106 = 400 := rfl
theorem l_107 : sh_L 107 = 401 := rfl
theorem l_108 : sh_L 108 = 401 := rfl
theorem l_109 : sh_L 109 = 401 := rfl
theorem l_111 : sh_L 111 = 11 := rfl
theorem l_114 : sh_L 114 = 8 := rfl
theorem l_115 : sh_L 115 = 8 := rfl
theorem l_116 : sh_L 116 = 10 := rfl
theorem l_117 : sh_L 117 = 10 := rfl
theorem l_118 : sh_L 118 = 10 := rfl
theorem l_119 : sh_L 119 = 10 := rfl
theorem l_120 : sh_L 120 = 10 := rfl
theorem l_123 : sh_L 123 = 11 := rfl
theorem l_125 : sh_L 125 = 8 := rfl
theorem l_126 : sh_L 126 = 256 := rfl
theorem l_127 : sh_L 127 = 256 := rfl
theorem l_128 : sh_L 128 = 12 := rfl
theorem l_129 : sh_L 129 = 181 := rfl
theorem l_130 : sh_L 130 = 181 := rfl
theorem l_131 : sh_L 131 = 100 := rfl
theorem l_133 : sh_L 133 = 44 := rfl
theorem l_134 : sh_L 134 = 264 := rfl
theorem l_135 : sh_L 135 = 44 := rfl
theorem l_136 : sh_L 136 = 8 := rfl
theorem l_137 : sh_L 137 = 10 := rfl
theorem l_138 : sh_L 138 = 10 := rfl
theorem l_139 : sh_L 139 = 10 := rfl
theorem l_140 : sh_L 140 = 600 := rfl
theorem l_141 : sh_L 141 = 400 := rfl
theorem l_142 : sh_L 142 = 152 := rfl
theorem l_143 : sh_L 143 = 2 := rfl
theorem l_144 : sh_L 144 = 48 := rfl
theorem l_145 : sh_L 145 = 48 := rfl
theorem l_146 : sh_L 146 = 48 := rfl
theorem l_147 : sh_L 147 = 48 := rfl
theorem l_148 : sh_L 148 = 1200 := rfl
theorem l_149 : sh_L 149 = 1200 := rfl
theorem l_150 : sh_L 150 = 40 := rfl
theorem l_151 : sh_L 151 = 20 := rfl
theorem l_152 : sh_L 152 = 96 := rfl
theorem l_153 : sh_L 153 = 32 := rfl
theorem l_154 : sh_L 154 = 11 := rfl
theorem l_155 : sh_L 155 = 420 := rfl
theorem l_156 : sh_L 156 = 8000 := rfl
theorem l_157 : sh_L 157 = 10 := rfl
theorem l_158 : sh_L 158 = 10 := rfl
theorem l_159 : sh_L 159 = 6 := rfl
theorem l_160 : sh_L 160 = 6 := rfl
theorem l_161 : sh_L 161 = 80 := rfl
theorem l_162 : sh_L 162 = 256 := rfl
theorem l_163 : sh_L 163 = 12 := rfl
theorem l_164 : sh_L 164 = 12 := rfl
theorem l_165 : sh_L 165 = 12 := rfl
theorem l_166 : sh_L 166 = 24 := rfl
theorem l_167 : sh_L 167 = 10 := rfl
theorem l_168 : sh_L 168 = 10 := rfl
theorem l_169 : sh_L 169 = 100 := rfl
theorem l_170 : sh_L 170 = 2100 := rfl
theorem l_173 : sh_L 173 = 8 := rfl
theorem l_174 : sh_L 174 = 8 := rfl
theorem l_175 : sh_L 175 = 10 := rfl
theorem l_176 : sh_L 176 = 10 := rfl
theorem l_177 : sh_L 177 = 10 := rfl
theorem l_178 : sh_L 178 = 10 := rfl
theorem l_179 : sh_L 179 = 10 := rfl
theorem l_181 : sh_L 181 = 600 := rfl
theorem l_184 : sh_L 184 = 16 := rfl
theorem l_185 : sh_L 185 = 16 := rfl
theorem l_186 : sh_L 186 = 16 := rfl
theorem l_187 : sh_L 187 = 16 := rfl
theorem l_188 : sh_L 188 = 400 := rfl
theorem l_189 : sh_L 189 = 40 := rfl
theorem l_191 : sh_L 191 = 48 := rfl
theorem l_193 : sh_L 193 = 48 := rfl
theorem l_195 : sh_L 195 = 48 := rfl
theorem l_198 : sh_L 198 = 30 := rfl
theorem l_200 : sh_L 200 = 18 := rfl
theorem l_202 : sh_L 202 = 48 := rfl
theorem l_204 : sh_L 204 = 72 := rfl
theorem l_206 : sh_L 206 = 60 := rfl
theorem l_207 : sh_L 207 = 80 := rfl
theorem l_208 : sh_L 208 = 10 := rfl
/-! ===== literals ===== -/
theorem i_0 : (0 : Int32) = nI 0 := rfl
theorem i_1 : (1 : Int32) = nI 1 := rfl
theorem i_2 : (2 : Int32) = nI 2 := rfl
theorem i_3 : (3 : Int32) = nI 3 := rfl
theorem i_4 : (4 : Int32) = nI 4 := rfl
theorem i_5 : (5 : Int32) = nI 5 := rfl
theorem i_6 : (6 : Int32) = nI 6 := rfl
theorem i_7 : (7 : Int32) = nI 7 := rfl
theorem i_8 : (8 : Int32) = nI 8 := rfl
theorem i_9 : (9 : Int32) = nI 9 := rfl
theorem i_10 : (10 : Int32) = nI 10 := rfl
theorem i_11 : (11 : Int32) = nI 11 := rfl
theorem i_12 : (12 : Int32) = nI 12 := rfl
theorem i_14 : (14 : Int32) = nI 14 := rfl
theorem i_15 : (15 : Int32) = nI 15 := rfl
theorem i_16 : (16 : Int32) = nI 16 := rfl
theorem i_17 : (17 : Int32) = nI 17 := rfl
theorem i_18 : (18 : Int32) = nI 18 := rfl
theorem i_19 : (19 : Int32) = nI 19 := rfl
theorem i_20 : (20 : Int32) = nI 20 := rfl
theorem i_21 : (21 : Int32) = nI 21 := rfl
theorem i_23 : (23 : Int32) = nI 23 := rfl
theorem i_24 : (24 : Int32) = nI 24 := rfl
theorem i_25 : (25 : Int32) = nI 25 := rfl
theorem i_26 : (26 : Int32) = nI 26 := rfl
theorem i_31 : (31 : Int32) = nI 31 := rfl
theorem i_32 : (32 : Int32) = nI 32 := rfl
theorem i_34 : (34 : Int32) = nI 34 := rfl
theorem i_40 : (40 : Int32) = nI 40 := rfl
theorem i_41 : (41 : Int32) = nI 41 := rfl
theorem i_42 : (42 : Int32) = nI 42 := rfl
theorem i_43 : (43 : Int32) = nI 43 := rfl
theorem i_44 : (44 : Int32) = nI 44 := rfl
theorem i_45 : (45 : Int32) = nI 45 := rfl
theorem i_47 : (47 : Int32) = nI 47 := rfl
theorem i_48 : (48 : Int32) = nI 48 := rfl
theorem i_57 : (57 : Int32) = nI 57 := rfl
theorem i_59 : (59 : Int32) = nI 59 := rfl
theorem i_60 : (60 : Int32) = nI 60 := rfl
theorem i_61 : (61 : Int32) = nI 61 := rfl
theorem i_62 : (62 : Int32) = nI 62 := rfl
theorem i_63 : (63 : Int32) = nI 63 := rfl
theorem i_65 : (65 : Int32) = nI 65 := rfl
theorem i_80 : (80 : Int32) = nI 80 := rfl
theorem i_90 : (90 : Int32) = nI 90 := rfl
theorem i_97 : (97 : Int32) = nI 97 := rfl
theorem i_98 : (98 : Int32) = nI 98 := rfl
theorem i_99 : (99 : Int32) = nI 99 := rfl
theorem i_100 : (100 : Int32) = nI 100 := rfl
theorem i_122 : (122 : Int32) = nI 122 := rfl
theorem i_150 : (150 : Int32) = nI 150 := rfl
theorem i_151 : (151 : Int32) = nI 151 := rfl
theorem i_255 : (255 : Int32) = nI 255 := rfl
theorem i_256 : (256 : Int32) = nI 256 := rfl
theorem i_258 : (258 : Int32) = nI 258 := rfl
theorem i_259 : (259 : Int32) = nI 259 := rfl
theorem i_260 : (260 : Int32) = nI 260 := rfl
theorem i_261 : (261 : Int32) = nI 261 := rfl
theorem i_262 : (262 : Int32) = nI 262 := rfl
theorem i_263 : (263 : Int32) = nI 263 := rfl
theorem i_271 : (271 : Int32) = nI 271 := rfl
theorem i_273 : (273 : Int32) = nI 273 := rfl
theorem i_274 : (274 : Int32) = nI 274 := rfl
theorem i_275 : (275 : Int32) = nI 275 := rfl
theorem i_276 : (276 : Int32) = nI 276 := rfl
theorem i_277 : (277 : Int32) = nI 277 := rfl
theorem i_281 : (281 : Int32) = nI 281 := rfl
theorem i_282 : (282 : Int32) = nI 282 := rfl
theorem i_380 : (380 : Int32) = nI 380 := rfl
theorem i_400 : (400 : Int32) = nI 400 := rfl
theorem i_500 : (500 : Int32) = nI 500 := rfl
theorem i_600 : (600 : Int32) = nI 600 := rfl
theorem i_800 : (800 : Int32) = nI 800 := rfl
theorem i_999 : (999 : Int32) = nI 999 := rfl
theorem i_1000 : (1000 : Int32) = nI 1000 := rfl
theorem i_9999 : (9999 : Int32) = nI 9999 := rfl
theorem i_10000 : (10000 : Int32) = nI 10000 := rfl
theorem i_10100 : (10100 : Int32) = nI 10100 := rfl
theorem i_10101 : (10101 : Int32) = nI 10101 := rfl
theorem i_10102 : (10102 : Int32) = nI 10102 := rfl
theorem i_10103 : (10103 : Int32) = nI 10103 := rfl
theorem i_10104 : (10104 : Int32) = nI 10104 := rfl
theorem i_10105 : (10105 : Int32) = nI 10105 := rfl
theorem i_10106 : (10106 : Int32) = nI 10106 := rfl
theorem i_10107 : (10107 : Int32) = nI 10107 := rfl
theorem i_10108 : (10108 : Int32) = nI 10108 := rfl
theorem i_10109 : (10109 : Int32) = nI 10109 := rfl
theorem i_27720 : (27720 : Int32) = nI 27720 := rfl
theorem i_65535 : (65535 : Int32) = nI 65535 := rfl
theorem i_1664525 : (1664525 : Int32) = nI 1664525 := rfl
theorem i_100000000 : (100000000 : Int32) = nI 100000000 := rfl
theorem i_252645135 : (252645135 : Int32) = nI 252645135 := rfl
theorem i_858993459 : (858993459 : Int32) = nI 858993459 := rfl
theorem i_1013904223 : (1013904223 : Int32) = nI 1013904223 := rfl
theorem i_1431655765 : (1431655765 : Int32) = nI 1431655765 := rfl
