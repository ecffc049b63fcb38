/-! Their own words -/
theorem cw_298 : cdX cx0 yA byA rtA hhA 298 ∈ gT := cw_of (p := (3, 211)) rfl rfl
theorem cw_2 : cdX cx0 yA byA rtA hhA 2 ∈ gT := cw_of (p := (3, 218)) rfl rfl
theorem cw_3 : cdX cx0 yA byA rtA hhA 3 ∈ gT := cw_of (p := (3, 230)) rfl rfl
theorem cw_84 : cdX cx0 yA byA rtA hhA 84 ∈ gT := cw_of (p := (3, 237)) rfl rfl
theorem cw_4 : cdX cx0 yA byA rtA hhA 4 ∈ gT := cw_of (p := (3, 226)) rfl rfl
theorem cw_9 : cdX cx0 yA byA rtA hhA 9 ∈ gT := cw_of (p := (7, 233)) rfl rfl
theorem cw_14 : cdX cx0 yA byA rtA hhA 14 ∈ gT := cw_of (p := (7, 201)) rfl rfl
theorem cw_312 : cdX cx0 yA byA rtA hhA 312 ∈ gT := cw_of (p := (1, 224)) rfl rfl
theorem cw_16 : cdX cx0 yA byA rtA hhA 16 ∈ gT := cw_of (p := (7, 207)) rfl rfl
theorem cw_15 : cdX cx0 yA byA rtA hhA 15 ∈ gT := cw_of (p := (7, 214)) rfl rfl
theorem cw_299 : cdX cx0 yA byA rtA hhA 299 ∈ gT := cw_of (p := (7, 210)) rfl rfl
theorem cw_19 : cdX cx0 yA byA rtA hhA 19 ∈ gT := cw_of (p := (3, 190)) rfl rfl
theorem cw_1 : cdX cx0 yA byA rtA hhA 1 ∈ gT := cw_of (p := (3, 208)) rfl rfl
theorem cw_5 : cdX cx0 yA byA rtA hhA 5 ∈ gT := cw_of (p := (3, 222)) rfl rfl
theorem cw_34 : cdX cx0 yA byA rtA hhA 34 ∈ gT := cw_of (p := (3, 193)) rfl rfl
theorem cw_30 : cdX cx0 yA byA rtA hhA 30 ∈ gT := cw_of (p := (3, 182)) rfl rfl
theorem cw_21 : cdX cx0 yA byA rtA hhA 21 ∈ gT := cw_of (p := (4, 17)) rfl rfl
theorem cw_6 : cdX cx0 yA byA rtA hhA 6 ∈ gT := cw_of (p := (4, 21)) rfl rfl
theorem cw_124 : cdX cx0 yA byA rtA hhA 124 ∈ gT := cw_of (p := (4, 29)) rfl rfl
theorem cw_20 : cdX cx0 yA byA rtA hhA 20 ∈ gT := cw_of (p := (4, 12)) rfl rfl
theorem cw_22 : cdX cx0 yA byA rtA hhA 22 ∈ gT := cw_of (p := (4, 25)) rfl rfl
theorem cw_24 : cdX cx0 yA byA rtA hhA 24 ∈ gT := cw_of (p := (6, 111)) rfl rfl
theorem cw_39 : cdX cx0 yA byA rtA hhA 39 ∈ gT := cw_of (p := (6, 123)) rfl rfl
theorem cw_25 : cdX cx0 yA byA rtA hhA 25 ∈ gT := cw_of (p := (6, 128)) rfl rfl
theorem cw_122 : cdX cx0 yA byA rtA hhA 122 ∈ gT := cw_of (p := (6, 115)) rfl rfl
theorem cw_37 : cdX cx0 yA byA rtA hhA 37 ∈ gT := cw_of (p := (6, 57)) rfl rfl
theorem cw_28 : cdX cx0 yA byA rtA hhA 28 ∈ gT := cw_of (p := (4, 62)) rfl rfl
theorem cw_26 : cdX cx0 yA byA rtA hhA 26 ∈ gT := cw_of (p := (6, 134)) rfl rfl
theorem cw_35 : cdX cx0 yA byA rtA hhA 35 ∈ gT := cw_of (p := (3, 196)) rfl rfl
theorem cw_297 : cdX cx0 yA byA rtA hhA 297 ∈ gT := cw_of (p := (3, 199)) rfl rfl
theorem cw_33 : cdX cx0 yA byA rtA hhA 33 ∈ gT := cw_of (p := (3, 202)) rfl rfl
theorem cw_100 : cdX cx0 yA byA rtA hhA 100 ∈ gT := cw_of (p := (4, 194)) rfl rfl
theorem cw_46 : cdX cx0 yA byA rtA hhA 46 ∈ gT := cw_of (p := (6, 216)) rfl rfl
theorem cw_83 : cdX cx0 yA byA rtA hhA 83 ∈ gT := cw_of (p := (6, 221)) rfl rfl
theorem cw_45 : cdX cx0 yA byA rtA hhA 45 ∈ gT := cw_of (p := (6, 210)) rfl rfl
theorem cw_47 : cdX cx0 yA byA rtA hhA 47 ∈ gT := cw_of (p := (7, 6)) rfl rfl
theorem cw_50 : cdX cx0 yA byA rtA hhA 50 ∈ gT := cw_of (p := (7, 11)) rfl rfl
theorem cw_49 : cdX cx0 yA byA rtA hhA 49 ∈ gT := cw_of (p := (7, 15)) rfl rfl
theorem cw_51 : cdX cx0 yA byA rtA hhA 51 ∈ gT := cw_of (p := (7, 20)) rfl rfl
theorem cw_52 : cdX cx0 yA byA rtA hhA 52 ∈ gT := cw_of (p := (7, 24)) rfl rfl
theorem cw_56 : cdX cx0 yA byA rtA hhA 56 ∈ gT := cw_of (p := (6, 167)) rfl rfl
theorem cw_57 : cdX cx0 yA byA rtA hhA 57 ∈ gT := cw_of (p := (6, 179)) rfl rfl
theorem cw_7 : cdX cx0 yA byA rtA hhA 7 ∈ gT := cw_of (p := (6, 174)) rfl rfl
theorem cw_58 : cdX cx0 yA byA rtA hhA 58 ∈ gT := cw_of (p := (6, 183)) rfl rfl
theorem cw_44 : cdX cx0 yA byA rtA hhA 44 ∈ gT := cw_of (p := (7, 62)) rfl rfl
theorem cw_63 : cdX cx0 yA byA rtA hhA 63 ∈ gT := cw_of (p := (7, 66)) rfl rfl
theorem cw_65 : cdX cx0 yA byA rtA hhA 65 ∈ gT := cw_of (p := (7, 70)) rfl rfl
theorem cw_64 : cdX cx0 yA byA rtA hhA 64 ∈ gT := cw_of (p := (7, 74)) rfl rfl
theorem cw_296 : cdX cx0 yA byA rtA hhA 296 ∈ gT := cw_of (p := (7, 77)) rfl rfl
theorem cw_66 : cdX cx0 yA byA rtA hhA 66 ∈ gT := cw_of (p := (7, 84)) rfl rfl
theorem cw_69 : cdX cx0 yA byA rtA hhA 69 ∈ gT := cw_of (p := (5, 0)) rfl rfl
theorem cw_71 : cdX cx0 yA byA rtA hhA 71 ∈ gT := cw_of (p := (5, 4)) rfl rfl
theorem cw_70 : cdX cx0 yA byA rtA hhA 70 ∈ gT := cw_of (p := (4, 1)) rfl rfl
theorem cw_131 : cdX cx0 yA byA rtA hhA 131 ∈ gT := cw_of (p := (5, 9)) rfl rfl
theorem cw_132 : cdX cx0 yA byA rtA hhA 132 ∈ gT := cw_of (p := (4, 175)) rfl rfl
theorem cw_129 : cdX cx0 yA byA rtA hhA 129 ∈ gT := cw_of (p := (4, 161)) rfl rfl
theorem cw_75 : cdX cx0 yA byA rtA hhA 75 ∈ gT := cw_of (p := (5, 64)) rfl rfl
theorem cw_72 : cdX cx0 yA byA rtA hhA 72 ∈ gT := cw_of (p := (5, 105)) rfl rfl
theorem cw_81 : cdX cx0 yA byA rtA hhA 81 ∈ gT := cw_of (p := (5, 84)) rfl rfl
theorem cw_73 : cdX cx0 yA byA rtA hhA 73 ∈ gT := cw_of (p := (5, 109)) rfl rfl
theorem cw_82 : cdX cx0 yA byA rtA hhA 82 ∈ gT := cw_of (p := (5, 76)) rfl rfl
theorem cw_74 : cdX cx0 yA byA rtA hhA 74 ∈ gT := cw_of (p := (5, 113)) rfl rfl
theorem cw_80 : cdX cx0 yA byA rtA hhA 80 ∈ gT := cw_of (p := (5, 80)) rfl rfl
theorem cw_76 : cdX cx0 yA byA rtA hhA 76 ∈ gT := cw_of (p := (5, 68)) rfl rfl
theorem cw_77 : cdX cx0 yA byA rtA hhA 77 ∈ gT := cw_of (p := (5, 72)) rfl rfl
theorem cw_78 : cdX cx0 yA byA rtA hhA 78 ∈ gT := cw_of (p := (5, 90)) rfl rfl
theorem cw_79 : cdX cx0 yA byA rtA hhA 79 ∈ gT := cw_of (p := (5, 94)) rfl rfl
theorem cw_85 : cdX cx0 yA byA rtA hhA 85 ∈ gT := cw_of (p := (4, 4)) rfl rfl
theorem cw_99 : cdX cx0 yA byA rtA hhA 99 ∈ gT := cw_of (p := (1, 87)) rfl rfl
theorem cw_0 : cdX cx0 yA byA rtA hhA 0 ∈ gT := cw_of (p := (2, 26)) rfl rfl
theorem cw_88 : cdX cx0 yA byA rtA hhA 88 ∈ gT := cw_of (p := (7, 113)) rfl rfl
theorem cw_92 : cdX cx0 yA byA rtA hhA 92 ∈ gT := cw_of (p := (7, 132)) rfl rfl
theorem cw_96 : cdX cx0 yA byA rtA hhA 96 ∈ gT := cw_of (p := (7, 158)) rfl rfl
theorem cw_107 : cdX cx0 yA byA rtA hhA 107 ∈ gT := cw_of (p := (4, 203)) rfl rfl
theorem cw_113 : cdX cx0 yA byA rtA hhA 113 ∈ gT := cw_of (p := (5, 148)) rfl rfl
theorem cw_93 : cdX cx0 yA byA rtA hhA 93 ∈ gT := cw_of (p := (7, 138)) rfl rfl
theorem cw_110 : cdX cx0 yA byA rtA hhA 110 ∈ gT := cw_of (p := (4, 220)) rfl rfl
theorem cw_94 : cdX cx0 yA byA rtA hhA 94 ∈ gT := cw_of (p := (7, 142)) rfl rfl
theorem cw_95 : cdX cx0 yA byA rtA hhA 95 ∈ gT := cw_of (p := (7, 148)) rfl rfl
theorem cw_97 : cdX cx0 yA byA rtA hhA 97 ∈ gT := cw_of (p := (7, 162)) rfl rfl
theorem cw_98 : cdX cx0 yA byA rtA hhA 98 ∈ gT := cw_of (p := (7, 166)) rfl rfl
theorem cw_104 : cdX cx0 yA byA rtA hhA 104 ∈ gT := cw_of (p := (4, 184)) rfl rfl
theorem cw_101 : cdX cx0 yA byA rtA hhA 101 ∈ gT := cw_of (p := (4, 187)) rfl rfl
theorem cw_105 : cdX cx0 yA byA rtA hhA 105 ∈ gT := cw_of (p := (4, 191)) rfl rfl
theorem cw_133 : cdX cx0 yA byA rtA hhA 133 ∈ gT := cw_of (p := (4, 179)) rfl rfl
theorem cw_108 : cdX cx0 yA byA rtA hhA 108 ∈ gT := cw_of (p := (4, 208)) rfl rfl
theorem cw_102 : cdX cx0 yA byA rtA hhA 102 ∈ gT := cw_of (p := (4, 211)) rfl rfl
theorem cw_109 : cdX cx0 yA byA rtA hhA 109 ∈ gT := cw_of (p := (4, 216)) rfl rfl
theorem cw_111 : cdX cx0 yA byA rtA hhA 111 ∈ gT := cw_of (p := (4, 224)) rfl rfl
theorem cw_116 : cdX cx0 yA byA rtA hhA 116 ∈ gT := cw_of (p := (5, 173)) rfl rfl
theorem cw_117 : cdX cx0 yA byA rtA hhA 117 ∈ gT := cw_of (p := (5, 177)) rfl rfl
theorem cw_118 : cdX cx0 yA byA rtA hhA 118 ∈ gT := cw_of (p := (5, 182)) rfl rfl
theorem cw_120 : cdX cx0 yA byA rtA hhA 120 ∈ gT := cw_of (p := (6, 72)) rfl rfl
theorem cw_123 : cdX cx0 yA byA rtA hhA 123 ∈ gT := cw_of (p := (6, 119)) rfl rfl
theorem cw_127 : cdX cx0 yA byA rtA hhA 127 ∈ gT := cw_of (p := (3, 170)) rfl rfl
theorem cw_130 : cdX cx0 yA byA rtA hhA 130 ∈ gT := cw_of (p := (4, 165)) rfl rfl
theorem cw_125 : cdX cx0 yA byA rtA hhA 125 ∈ gT := cw_of (p := (1, 41)) rfl rfl
theorem cw_67 : cdX cx0 yA byA rtA hhA 67 ∈ gT := cw_of (p := (1, 167)) rfl rfl
theorem cw_27 : cdX cx0 yA byA rtA hhA 27 ∈ gT := cw_of (p := (1, 219)) rfl rfl
theorem cw_17 : cdX cx0 yA byA rtA hhA 17 ∈ gT := cw_of (p := (2, 80)) rfl rfl
theorem cw_53 : cdX cx0 yA byA rtA hhA 53 ∈ gT := cw_of (p := (2, 121)) rfl rfl
theorem cw_42 : cdX cx0 yA byA rtA hhA 42 ∈ gT := cw_of (p := (2, 171)) rfl rfl
theorem cw_59 : cdX cx0 yA byA rtA hhA 59 ∈ gT := cw_of (p := (2, 227)) rfl rfl
theorem cw_86 : cdX cx0 yA byA rtA hhA 86 ∈ gT := cw_of (p := (3, 25)) rfl rfl
theorem cw_10 : cdX cx0 yA byA rtA hhA 10 ∈ gT := cw_of (p := (3, 95)) rfl rfl
theorem cw_126 : cdX cx0 yA byA rtA hhA 126 ∈ gT := cw_of (p := (3, 166)) rfl rfl
theorem cw_128 : cdX cx0 yA byA rtA hhA 128 ∈ gT := cw_of (p := (4, 157)) rfl rfl
theorem cw_103 : cdX cx0 yA byA rtA hhA 103 ∈ gT := cw_of (p := (4, 171)) rfl rfl
theorem cw_106 : cdX cx0 yA byA rtA hhA 106 ∈ gT := cw_of (p := (4, 199)) rfl rfl
theorem cw_68 : cdX cx0 yA byA rtA hhA 68 ∈ gT := cw_of (p := (4, 236)) rfl rfl
theorem cw_180 : cdX cx0 yA byA rtA hhA 180 ∈ gT := cw_of (p := (5, 128)) rfl rfl
theorem cw_183 : cdX cx0 yA byA rtA hhA 183 ∈ gT := cw_of (p := (5, 159)) rfl rfl
theorem cw_184 : cdX cx0 yA byA rtA hhA 184 ∈ gT := cw_of (p := (5, 163)) rfl rfl
theorem cw_114 : cdX cx0 yA byA rtA hhA 114 ∈ gT := cw_of (p := (5, 169)) rfl rfl
theorem cw_115 : cdX cx0 yA byA rtA hhA 115 ∈ gT := cw_of (p := (5, 193)) rfl rfl
theorem cw_181 : cdX cx0 yA byA rtA hhA 181 ∈ gT := cw_of (p := (5, 212)) rfl rfl
theorem cw_29 : cdX cx0 yA byA rtA hhA 29 ∈ gT := cw_of (p := (6, 1)) rfl rfl
theorem cw_182 : cdX cx0 yA byA rtA hhA 182 ∈ gT := cw_of (p := (6, 12)) rfl rfl
theorem cw_179 : cdX cx0 yA byA rtA hhA 179 ∈ gT := cw_of (p := (6, 23)) rfl rfl
theorem cw_36 : cdX cx0 yA byA rtA hhA 36 ∈ gT := cw_of (p := (6, 52)) rfl rfl
theorem cw_119 : cdX cx0 yA byA rtA hhA 119 ∈ gT := cw_of (p := (6, 68)) rfl rfl
theorem cw_112 : cdX cx0 yA byA rtA hhA 112 ∈ gT := cw_of (p := (6, 90)) rfl rfl
theorem cw_38 : cdX cx0 yA byA rtA hhA 38 ∈ gT := cw_of (p := (6, 94)) rfl rfl
theorem cw_18 : cdX cx0 yA byA rtA hhA 18 ∈ gT := cw_of (p := (3, 186)) rfl rfl
theorem cw_23 : cdX cx0 yA byA rtA hhA 23 ∈ gT := cw_of (p := (6, 105)) rfl rfl
theorem cw_54 : cdX cx0 yA byA rtA hhA 54 ∈ gT := cw_of (p := (6, 152)) rfl rfl
theorem cw_55 : cdX cx0 yA byA rtA hhA 55 ∈ gT := cw_of (p := (6, 163)) rfl rfl
theorem cw_43 : cdX cx0 yA byA rtA hhA 43 ∈ gT := cw_of (p := (6, 198)) rfl rfl
theorem cw_48 : cdX cx0 yA byA rtA hhA 48 ∈ gT := cw_of (p := (7, 1)) rfl rfl
theorem cw_60 : cdX cx0 yA byA rtA hhA 60 ∈ gT := cw_of (p := (7, 35)) rfl rfl
theorem cw_61 : cdX cx0 yA byA rtA hhA 61 ∈ gT := cw_of (p := (7, 39)) rfl rfl
theorem cw_62 : cdX cx0 yA byA rtA hhA 62 ∈ gT := cw_of (p := (7, 58)) rfl rfl
theorem cw_87 : cdX cx0 yA byA rtA hhA 87 ∈ gT := cw_of (p := (7, 109)) rfl rfl
theorem cw_89 : cdX cx0 yA byA rtA hhA 89 ∈ gT := cw_of (p := (7, 124)) rfl rfl
theorem cw_91 : cdX cx0 yA byA rtA hhA 91 ∈ gT := cw_of (p := (7, 128)) rfl rfl
theorem cw_90 : cdX cx0 yA byA rtA hhA 90 ∈ gT := cw_of (p := (7, 173)) rfl rfl
theorem cw_11 : cdX cx0 yA byA rtA hhA 11 ∈ gT := cw_of (p := (7, 185)) rfl rfl
theorem cw_12 : cdX cx0 yA byA rtA hhA 12 ∈ gT := cw_of (p := (7, 197)) rfl rfl
theorem cw_13 : cdX cx0 yA byA rtA hhA 13 ∈ gT := cw_of (p := (7, 218)) rfl rfl
theorem cw_8 : cdX cx0 yA byA rtA hhA 8 ∈ gT := cw_of (p := (7, 229)) rfl rfl
theorem cw_121 : cdX cx0 yA byA rtA hhA 121 ∈ gT := cw_of (p := (8, 12)) rfl rfl
theorem cw_40 : cdX cx0 yA byA rtA hhA 40 ∈ gT := cw_of (p := (4, 47)) rfl rfl
theorem cw_41 : cdX cx0 yA byA rtA hhA 41 ∈ gT := cw_of (p := (4, 58)) rfl rfl
theorem cw_31 : cdX cx0 yA byA rtA hhA 31 ∈ gT := cw_of (p := (4, 70)) rfl rfl
theorem cw_32 : cdX cx0 yA byA rtA hhA 32 ∈ gT := cw_of (p := (4, 75)) rfl rfl
theorem cw_192 : cdX cx0 yA byA rtA hhA 192 ∈ gT := cw_of (p := (9, 61)) rfl rfl
theorem cw_193 : cdX cx0 yA byA rtA hhA 193 ∈ gT := cw_of (p := (9, 57)) rfl rfl
theorem cw_195 : cdX cx0 yA byA rtA hhA 195 ∈ gT := cw_of (p := (9, 64)) rfl rfl
theorem cw_194 : cdX cx0 yA byA rtA hhA 194 ∈ gT := cw_of (p := (9, 68)) rfl rfl
theorem cw_188 : cdX cx0 yA byA rtA hhA 188 ∈ gT := cw_of (p := (9, 41)) rfl rfl
theorem cw_196 : cdX cx0 yA byA rtA hhA 196 ∈ gT := cw_of (p := (9, 53)) rfl rfl
theorem cw_190 : cdX cx0 yA byA rtA hhA 190 ∈ gT := cw_of (p := (9, 76)) rfl rfl
theorem cw_198 : cdX cx0 yA byA rtA hhA 198 ∈ gT := cw_of (p := (9, 80)) rfl rfl
theorem cw_187 : cdX cx0 yA byA rtA hhA 187 ∈ gT := cw_of (p := (9, 45)) rfl rfl
theorem cw_197 : cdX cx0 yA byA rtA hhA 197 ∈ gT := cw_of (p := (9, 49)) rfl rfl
theorem cw_199 : cdX cx0 yA byA rtA hhA 199 ∈ gT := cw_of (p := (9, 73)) rfl rfl
theorem cw_201 : cdX cx0 yA byA rtA hhA 201 ∈ gT := cw_of (p := (9, 92)) rfl rfl
theorem cw_202 : cdX cx0 yA byA rtA hhA 202 ∈ gT := cw_of (p := (9, 95)) rfl rfl
theorem cw_206 : cdX cx0 yA byA rtA hhA 206 ∈ gT := cw_of (p := (9, 115)) rfl rfl
theorem cw_203 : cdX cx0 yA byA rtA hhA 203 ∈ gT := cw_of (p := (9, 99)) rfl rfl
theorem cw_205 : cdX cx0 yA byA rtA hhA 205 ∈ gT := cw_of (p := (9, 119)) rfl rfl
theorem cw_209 : cdX cx0 yA byA rtA hhA 209 ∈ gT := cw_of (p := (9, 103)) rfl rfl
theorem cw_204 : cdX cx0 yA byA rtA hhA 204 ∈ gT := cw_of (p := (9, 123)) rfl rfl
theorem cw_207 : cdX cx0 yA byA rtA hhA 207 ∈ gT := cw_of (p := (9, 111)) rfl rfl
theorem cw_208 : cdX cx0 yA byA rtA hhA 208 ∈ gT := cw_of (p := (9, 107)) rfl rfl
theorem cw_210 : cdX cx0 yA byA rtA hhA 210 ∈ gT := cw_of (p := (9, 135)) rfl rfl
theorem cw_212 : cdX cx0 yA byA rtA hhA 212 ∈ gT := cw_of (p := (9, 127)) rfl rfl
theorem cw_211 : cdX cx0 yA byA rtA hhA 211 ∈ gT := cw_of (p := (9, 131)) rfl rfl
theorem cw_213 : cdX cx0 yA byA rtA hhA 213 ∈ gT := cw_of (p := (9, 88)) rfl rfl
theorem cw_220 : cdX cx0 yA byA rtA hhA 220 ∈ gT := cw_of (p := (9, 159)) rfl rfl
theorem cw_223 : cdX cx0 yA byA rtA hhA 223 ∈ gT := cw_of (p := (9, 187)) rfl rfl
theorem cw_224 : cdX cx0 yA byA rtA hhA 224 ∈ gT := cw_of (p := (9, 191)) rfl rfl
theorem cw_225 : cdX cx0 yA byA rtA hhA 225 ∈ gT := cw_of (p := (9, 202)) rfl rfl
theorem cw_226 : cdX cx0 yA byA rtA hhA 226 ∈ gT := cw_of (p := (9, 206)) rfl rfl
theorem cw_227 : cdX cx0 yA byA rtA hhA 227 ∈ gT := cw_of (p := (9, 199)) rfl rfl
theorem cw_216 : cdX cx0 yA byA rtA hhA 216 ∈ gT := cw_of (p := (9, 210)) rfl rfl
theorem cw_228 : cdX cx0 yA byA rtA hhA 228 ∈ gT := cw_of (p := (9, 195)) rfl rfl
theorem cw_230 : cdX cx0 yA byA rtA hhA 230 ∈ gT := cw_of (p := (9, 179)) rfl rfl
theorem cw_231 : cdX cx0 yA byA rtA hhA 231 ∈ gT := cw_of (p := (9, 222)) rfl rfl
theorem cw_222 : cdX cx0 yA byA rtA hhA 222 ∈ gT := cw_of (p := (9, 183)) rfl rfl
theorem cw_232 : cdX cx0 yA byA rtA hhA 232 ∈ gT := cw_of (p := (9, 218)) rfl rfl
theorem cw_239 : cdX cx0 yA byA rtA hhA 239 ∈ gT := cw_of (p := (9, 234)) rfl rfl
theorem cw_240 : cdX cx0 yA byA rtA hhA 240 ∈ gT := cw_of (p := (9, 230)) rfl rfl
theorem cw_245 : cdX cx0 yA byA rtA hhA 245 ∈ gT := cw_of (p := (10, 14)) rfl rfl
theorem cw_233 : cdX cx0 yA byA rtA hhA 233 ∈ gT := cw_of (p := (10, 22)) rfl rfl
theorem cw_248 : cdX cx0 yA byA rtA hhA 248 ∈ gT := cw_of (p := (10, 46)) rfl rfl
theorem cw_249 : cdX cx0 yA byA rtA hhA 249 ∈ gT := cw_of (p := (10, 42)) rfl rfl
theorem cw_250 : cdX cx0 yA byA rtA hhA 250 ∈ gT := cw_of (p := (10, 34)) rfl rfl
theorem cw_251 : cdX cx0 yA byA rtA hhA 251 ∈ gT := cw_of (p := (10, 38)) rfl rfl
theorem cw_252 : cdX cx0 yA byA rtA hhA 252 ∈ gT := cw_of (p := (10, 30)) rfl rfl
theorem cw_255 : cdX cx0 yA byA rtA hhA 255 ∈ gT := cw_of (p := (10, 58)) rfl rfl
theorem cw_254 : cdX cx0 yA byA rtA hhA 254 ∈ gT := cw_of (p := (10, 54)) rfl rfl
theorem cw_262 : cdX cx0 yA byA rtA hhA 262 ∈ gT := cw_of (p := (10, 86)) rfl rfl
theorem cw_261 : cdX cx0 yA byA rtA hhA 261 ∈ gT := cw_of (p := (10, 82)) rfl rfl
theorem cw_260 : cdX cx0 yA byA rtA hhA 260 ∈ gT := cw_of (p := (10, 78)) rfl rfl
theorem cw_265 : cdX cx0 yA byA rtA hhA 265 ∈ gT := cw_of (p := (10, 103)) rfl rfl
theorem cw_229 : cdX cx0 yA byA rtA hhA 229 ∈ gT := cw_of (p := (10, 107)) rfl rfl
theorem cw_266 : cdX cx0 yA byA rtA hhA 266 ∈ gT := cw_of (p := (10, 99)) rfl rfl
theorem cw_269 : cdX cx0 yA byA rtA hhA 269 ∈ gT := cw_of (p := (10, 123)) rfl rfl
theorem cw_271 : cdX cx0 yA byA rtA hhA 271 ∈ gT := cw_of (p := (10, 127)) rfl rfl
theorem cw_270 : cdX cx0 yA byA rtA hhA 270 ∈ gT := cw_of (p := (10, 119)) rfl rfl
theorem cw_275 : cdX cx0 yA byA rtA hhA 275 ∈ gT := cw_of (p := (10, 143)) rfl rfl
theorem cw_284 : cdX cx0 yA byA rtA hhA 284 ∈ gT := cw_of (p := (10, 175)) rfl rfl
theorem cw_283 : cdX cx0 yA byA rtA hhA 283 ∈ gT := cw_of (p := (10, 179)) rfl rfl
theorem cw_282 : cdX cx0 yA byA rtA hhA 282 ∈ gT := cw_of (p := (10, 183)) rfl rfl
theorem cw_285 : cdX cx0 yA byA rtA hhA 285 ∈ gT := cw_of (p := (10, 171)) rfl rfl
theorem cw_280 : cdX cx0 yA byA rtA hhA 280 ∈ gT := cw_of (p := (10, 163)) rfl rfl
theorem cw_281 : cdX cx0 yA byA rtA hhA 281 ∈ gT := cw_of (p := (10, 167)) rfl rfl
theorem cw_189 : cdX cx0 yA byA rtA hhA 189 ∈ gT := cw_of (p := (10, 198)) rfl rfl
theorem cw_288 : cdX cx0 yA byA rtA hhA 288 ∈ gT := cw_of (p := (10, 195)) rfl rfl
theorem cw_136 : cdX cx0 yA byA rtA hhA 136 ∈ gT := cw_of (p := (4, 85)) rfl rfl
theorem cw_137 : cdX cx0 yA byA rtA hhA 137 ∈ gT := cw_of (p := (4, 232)) rfl rfl
theorem cw_139 : cdX cx0 yA byA rtA hhA 139 ∈ gT := cw_of (p := (5, 124)) rfl rfl
theorem cw_140 : cdX cx0 yA byA rtA hhA 140 ∈ gT := cw_of (p := (5, 155)) rfl rfl
theorem cw_141 : cdX cx0 yA byA rtA hhA 141 ∈ gT := cw_of (p := (5, 189)) rfl rfl
theorem cw_142 : cdX cx0 yA byA rtA hhA 142 ∈ gT := cw_of (p := (5, 200)) rfl rfl
theorem cw_143 : cdX cx0 yA byA rtA hhA 143 ∈ gT := cw_of (p := (5, 208)) rfl rfl
theorem cw_144 : cdX cx0 yA byA rtA hhA 144 ∈ gT := cw_of (p := (5, 236)) rfl rfl
theorem cw_145 : cdX cx0 yA byA rtA hhA 145 ∈ gT := cw_of (p := (6, 8)) rfl rfl
theorem cw_146 : cdX cx0 yA byA rtA hhA 146 ∈ gT := cw_of (p := (6, 19)) rfl rfl
theorem cw_147 : cdX cx0 yA byA rtA hhA 147 ∈ gT := cw_of (p := (6, 32)) rfl rfl
theorem cw_148 : cdX cx0 yA byA rtA hhA 148 ∈ gT := cw_of (p := (6, 40)) rfl rfl
theorem cw_149 : cdX cx0 yA byA rtA hhA 149 ∈ gT := cw_of (p := (6, 48)) rfl rfl
theorem cw_150 : cdX cx0 yA byA rtA hhA 150 ∈ gT := cw_of (p := (6, 64)) rfl rfl
theorem cw_151 : cdX cx0 yA byA rtA hhA 151 ∈ gT := cw_of (p := (6, 79)) rfl rfl
theorem cw_152 : cdX cx0 yA byA rtA hhA 152 ∈ gT := cw_of (p := (6, 86)) rfl rfl
theorem cw_155 : cdX cx0 yA byA rtA hhA 155 ∈ gT := cw_of (p := (6, 101)) rfl rfl
theorem cw_156 : cdX cx0 yA byA rtA hhA 156 ∈ gT := cw_of (p := (6, 141)) rfl rfl
theorem cw_157 : cdX cx0 yA byA rtA hhA 157 ∈ gT := cw_of (p := (6, 148)) rfl rfl
theorem cw_158 : cdX cx0 yA byA rtA hhA 158 ∈ gT := cw_of (p := (6, 159)) rfl rfl
theorem cw_160 : cdX cx0 yA byA rtA hhA 160 ∈ gT := cw_of (p := (6, 193)) rfl rfl
theorem cw_161 : cdX cx0 yA byA rtA hhA 161 ∈ gT := cw_of (p := (6, 205)) rfl rfl
theorem cw_162 : cdX cx0 yA byA rtA hhA 162 ∈ gT := cw_of (p := (6, 229)) rfl rfl
theorem cw_163 : cdX cx0 yA byA rtA hhA 163 ∈ gT := cw_of (p := (6, 237)) rfl rfl
theorem cw_164 : cdX cx0 yA byA rtA hhA 164 ∈ gT := cw_of (p := (7, 31)) rfl rfl
theorem cw_165 : cdX cx0 yA byA rtA hhA 165 ∈ gT := cw_of (p := (7, 46)) rfl rfl
theorem cw_166 : cdX cx0 yA byA rtA hhA 166 ∈ gT := cw_of (p := (7, 54)) rfl rfl
theorem cw_167 : cdX cx0 yA byA rtA hhA 167 ∈ gT := cw_of (p := (7, 91)) rfl rfl
theorem cw_168 : cdX cx0 yA byA rtA hhA 168 ∈ gT := cw_of (p := (7, 98)) rfl rfl
theorem cw_169 : cdX cx0 yA byA rtA hhA 169 ∈ gT := cw_of (p := (7, 105)) rfl rfl
theorem cw_170 : cdX cx0 yA byA rtA hhA 170 ∈ gT := cw_of (p := (7, 120)) rfl rfl
theorem cw_171 : cdX cx0 yA byA rtA hhA 171 ∈ gT := cw_of (p := (7, 180)) rfl rfl
theorem cw_172 : cdX cx0 yA byA rtA hhA 172 ∈ gT := cw_of (p := (7, 193)) rfl rfl
theorem cw_173 : cdX cx0 yA byA rtA hhA 173 ∈ gT := cw_of (p := (7, 225)) rfl rfl
theorem cw_174 : cdX cx0 yA byA rtA hhA 174 ∈ gT := cw_of (p := (8, 0)) rfl rfl
theorem cw_175 : cdX cx0 yA byA rtA hhA 175 ∈ gT := cw_of (p := (8, 8)) rfl rfl
theorem cw_134 : cdX cx0 yA byA rtA hhA 134 ∈ gT := cw_of (p := (1, 33)) rfl rfl
theorem cw_185 : cdX cx0 yA byA rtA hhA 185 ∈ gT := cw_of (p := (8, 17)) rfl rfl
theorem cw_135 : cdX cx0 yA byA rtA hhA 135 ∈ gT := cw_of (p := (3, 162)) rfl rfl
theorem cw_191 : cdX cx0 yA byA rtA hhA 191 ∈ gT := cw_of (p := (9, 34)) rfl rfl
theorem cw_314 : cdX cx0 yA byA rtA hhA 314 ∈ gT := cw_of (p := (4, 80)) rfl rfl
theorem cw_200 : cdX cx0 yA byA rtA hhA 200 ∈ gT := cw_of (p := (9, 38)) rfl rfl
theorem cw_315 : cdX cx0 yA byA rtA hhA 315 ∈ gT := cw_of (p := (4, 228)) rfl rfl
theorem cw_214 : cdX cx0 yA byA rtA hhA 214 ∈ gT := cw_of (p := (9, 84)) rfl rfl
theorem cw_138 : cdX cx0 yA byA rtA hhA 138 ∈ gT := cw_of (p := (3, 174)) rfl rfl
theorem cw_215 : cdX cx0 yA byA rtA hhA 215 ∈ gT := cw_of (p := (9, 139)) rfl rfl
theorem cw_316 : cdX cx0 yA byA rtA hhA 316 ∈ gT := cw_of (p := (5, 119)) rfl rfl
theorem cw_217 : cdX cx0 yA byA rtA hhA 217 ∈ gT := cw_of (p := (9, 143)) rfl rfl
theorem cw_317 : cdX cx0 yA byA rtA hhA 317 ∈ gT := cw_of (p := (5, 151)) rfl rfl
theorem cw_218 : cdX cx0 yA byA rtA hhA 218 ∈ gT := cw_of (p := (9, 147)) rfl rfl
theorem cw_318 : cdX cx0 yA byA rtA hhA 318 ∈ gT := cw_of (p := (5, 185)) rfl rfl
theorem cw_219 : cdX cx0 yA byA rtA hhA 219 ∈ gT := cw_of (p := (9, 151)) rfl rfl
theorem cw_319 : cdX cx0 yA byA rtA hhA 319 ∈ gT := cw_of (p := (5, 196)) rfl rfl
theorem cw_221 : cdX cx0 yA byA rtA hhA 221 ∈ gT := cw_of (p := (9, 155)) rfl rfl
theorem cw_320 : cdX cx0 yA byA rtA hhA 320 ∈ gT := cw_of (p := (5, 203)) rfl rfl
theorem cw_234 : cdX cx0 yA byA rtA hhA 234 ∈ gT := cw_of (p := (9, 163)) rfl rfl
theorem cw_321 : cdX cx0 yA byA rtA hhA 321 ∈ gT := cw_of (p := (5, 232)) rfl rfl
theorem cw_235 : cdX cx0 yA byA rtA hhA 235 ∈ gT := cw_of (p := (9, 167)) rfl rfl
theorem cw_322 : cdX cx0 yA byA rtA hhA 322 ∈ gT := cw_of (p := (6, 4)) rfl rfl
theorem cw_236 : cdX cx0 yA byA rtA hhA 236 ∈ gT := cw_of (p := (9, 171)) rfl rfl
theorem cw_323 : cdX cx0 yA byA rtA hhA 323 ∈ gT := cw_of (p := (6, 15)) rfl rfl
theorem cw_237 : cdX cx0 yA byA rtA hhA 237 ∈ gT := cw_of (p := (9, 175)) rfl rfl
theorem cw_324 : cdX cx0 yA byA rtA hhA 324 ∈ gT := cw_of (p := (6, 28)) rfl rfl
theorem cw_238 : cdX cx0 yA byA rtA hhA 238 ∈ gT := cw_of (p := (9, 214)) rfl rfl
theorem cw_325 : cdX cx0 yA byA rtA hhA 325 ∈ gT := cw_of (p := (6, 36)) rfl rfl
theorem cw_241 : cdX cx0 yA byA rtA hhA 241 ∈ gT := cw_of (p := (9, 226)) rfl rfl
theorem cw_326 : cdX cx0 yA byA rtA hhA 326 ∈ gT := cw_of (p := (6, 44)) rfl rfl
theorem cw_242 : cdX cx0 yA byA rtA hhA 242 ∈ gT := cw_of (p := (9, 238)) rfl rfl
theorem cw_327 : cdX cx0 yA byA rtA hhA 327 ∈ gT := cw_of (p := (6, 60)) rfl rfl
theorem cw_243 : cdX cx0 yA byA rtA hhA 243 ∈ gT := cw_of (p := (10, 2)) rfl rfl
theorem cw_328 : cdX cx0 yA byA rtA hhA 328 ∈ gT := cw_of (p := (6, 75)) rfl rfl
theorem cw_244 : cdX cx0 yA byA rtA hhA 244 ∈ gT := cw_of (p := (10, 6)) rfl rfl
theorem cw_329 : cdX cx0 yA byA rtA hhA 329 ∈ gT := cw_of (p := (6, 82)) rfl rfl
theorem cw_246 : cdX cx0 yA byA rtA hhA 246 ∈ gT := cw_of (p := (10, 10)) rfl rfl
theorem cw_153 : cdX cx0 yA byA rtA hhA 153 ∈ gT := cw_of (p := (3, 178)) rfl rfl
theorem cw_247 : cdX cx0 yA byA rtA hhA 247 ∈ gT := cw_of (p := (10, 18)) rfl rfl
theorem cw_154 : cdX cx0 yA byA rtA hhA 154 ∈ gT := cw_of (p := (4, 8)) rfl rfl
theorem cw_253 : cdX cx0 yA byA rtA hhA 253 ∈ gT := cw_of (p := (10, 26)) rfl rfl
theorem cw_330 : cdX cx0 yA byA rtA hhA 330 ∈ gT := cw_of (p := (6, 97)) rfl rfl
theorem cw_256 : cdX cx0 yA byA rtA hhA 256 ∈ gT := cw_of (p := (10, 50)) rfl rfl
theorem cw_331 : cdX cx0 yA byA rtA hhA 331 ∈ gT := cw_of (p := (6, 137)) rfl rfl
theorem cw_257 : cdX cx0 yA byA rtA hhA 257 ∈ gT := cw_of (p := (10, 62)) rfl rfl
theorem cw_332 : cdX cx0 yA byA rtA hhA 332 ∈ gT := cw_of (p := (6, 144)) rfl rfl
theorem cw_258 : cdX cx0 yA byA rtA hhA 258 ∈ gT := cw_of (p := (10, 66)) rfl rfl
theorem cw_333 : cdX cx0 yA byA rtA hhA 333 ∈ gT := cw_of (p := (6, 155)) rfl rfl
theorem cw_263 : cdX cx0 yA byA rtA hhA 263 ∈ gT := cw_of (p := (10, 74)) rfl rfl
theorem cw_159 : cdX cx0 yA byA rtA hhA 159 ∈ gT := cw_of (p := (4, 39)) rfl rfl
theorem cw_259 : cdX cx0 yA byA rtA hhA 259 ∈ gT := cw_of (p := (10, 70)) rfl rfl
theorem cw_334 : cdX cx0 yA byA rtA hhA 334 ∈ gT := cw_of (p := (6, 189)) rfl rfl
theorem cw_264 : cdX cx0 yA byA rtA hhA 264 ∈ gT := cw_of (p := (10, 90)) rfl rfl
theorem cw_335 : cdX cx0 yA byA rtA hhA 335 ∈ gT := cw_of (p := (6, 201)) rfl rfl
theorem cw_267 : cdX cx0 yA byA rtA hhA 267 ∈ gT := cw_of (p := (10, 95)) rfl rfl
theorem cw_336 : cdX cx0 yA byA rtA hhA 336 ∈ gT := cw_of (p := (6, 225)) rfl rfl
theorem cw_268 : cdX cx0 yA byA rtA hhA 268 ∈ gT := cw_of (p := (10, 111)) rfl rfl
theorem cw_337 : cdX cx0 yA byA rtA hhA 337 ∈ gT := cw_of (p := (6, 233)) rfl rfl
theorem cw_272 : cdX cx0 yA byA rtA hhA 272 ∈ gT := cw_of (p := (10, 115)) rfl rfl
theorem cw_338 : cdX cx0 yA byA rtA hhA 338 ∈ gT := cw_of (p := (7, 27)) rfl rfl
theorem cw_273 : cdX cx0 yA byA rtA hhA 273 ∈ gT := cw_of (p := (10, 131)) rfl rfl
theorem cw_339 : cdX cx0 yA byA rtA hhA 339 ∈ gT := cw_of (p := (7, 42)) rfl rfl
theorem cw_274 : cdX cx0 yA byA rtA hhA 274 ∈ gT := cw_of (p := (10, 135)) rfl rfl
theorem cw_340 : cdX cx0 yA byA rtA hhA 340 ∈ gT := cw_of (p := (7, 50)) rfl rfl
theorem cw_276 : cdX cx0 yA byA rtA hhA 276 ∈ gT := cw_of (p := (10, 139)) rfl rfl
theorem cw_341 : cdX cx0 yA byA rtA hhA 341 ∈ gT := cw_of (p := (7, 87)) rfl rfl
theorem cw_277 : cdX cx0 yA byA rtA hhA 277 ∈ gT := cw_of (p := (10, 147)) rfl rfl
theorem cw_342 : cdX cx0 yA byA rtA hhA 342 ∈ gT := cw_of (p := (7, 94)) rfl rfl
theorem cw_278 : cdX cx0 yA byA rtA hhA 278 ∈ gT := cw_of (p := (10, 151)) rfl rfl
theorem cw_343 : cdX cx0 yA byA rtA hhA 343 ∈ gT := cw_of (p := (7, 101)) rfl rfl
theorem cw_279 : cdX cx0 yA byA rtA hhA 279 ∈ gT := cw_of (p := (10, 155)) rfl rfl
theorem cw_344 : cdX cx0 yA byA rtA hhA 344 ∈ gT := cw_of (p := (7, 116)) rfl rfl
theorem cw_286 : cdX cx0 yA byA rtA hhA 286 ∈ gT := cw_of (p := (10, 159)) rfl rfl
theorem cw_345 : cdX cx0 yA byA rtA hhA 345 ∈ gT := cw_of (p := (7, 176)) rfl rfl
theorem cw_287 : cdX cx0 yA byA rtA hhA 287 ∈ gT := cw_of (p := (10, 187)) rfl rfl
theorem cw_346 : cdX cx0 yA byA rtA hhA 346 ∈ gT := cw_of (p := (7, 189)) rfl rfl
theorem cw_289 : cdX cx0 yA byA rtA hhA 289 ∈ gT := cw_of (p := (10, 191)) rfl rfl
theorem cw_347 : cdX cx0 yA byA rtA hhA 347 ∈ gT := cw_of (p := (7, 221)) rfl rfl
theorem cw_290 : cdX cx0 yA byA rtA hhA 290 ∈ gT := cw_of (p := (10, 202)) rfl rfl
theorem cw_348 : cdX cx0 yA byA rtA hhA 348 ∈ gT := cw_of (p := (7, 236)) rfl rfl
theorem cw_291 : cdX cx0 yA byA rtA hhA 291 ∈ gT := cw_of (p := (10, 206)) rfl rfl
theorem cw_349 : cdX cx0 yA byA rtA hhA 349 ∈ gT := cw_of (p := (8, 4)) rfl rfl
theorem cw_292 : cdX cx0 yA byA rtA hhA 292 ∈ gT := cw_of (p := (10, 210)) rfl rfl
theorem cw_176 : cdX cx0 yA byA rtA hhA 176 ∈ gT := cw_of (p := (4, 43)) rfl rfl
theorem cw_293 : cdX cx0 yA byA rtA hhA 293 ∈ gT := cw_of (p := (10, 214)) rfl rfl
theorem cw_177 : cdX cx0 yA byA rtA hhA 177 ∈ gT := cw_of (p := (4, 54)) rfl rfl
theorem cw_294 : cdX cx0 yA byA rtA hhA 294 ∈ gT := cw_of (p := (10, 218)) rfl rfl
theorem cw_178 : cdX cx0 yA byA rtA hhA 178 ∈ gT := cw_of (p := (4, 66)) rfl rfl
theorem cw_295 : cdX cx0 yA byA rtA hhA 295 ∈ gT := cw_of (p := (10, 222)) rfl rfl
theorem cwS_0 (i : Nat) (y : Nat × List (Nat × Nat)) (h : mpS_0[i]? = some y) : cwP (256 * 0 + 16 * 0 + i) y := by
  unfold mpS_0 at h
  match i, h with
  | 0, h => cases h; exact fun _ => cw_0
  | 1, h => cases h; exact fun _ => cw_1
  | 2, h => cases h; exact fun _ => cw_2
  | 3, h => cases h; exact fun _ => cw_3
  | 4, h => cases h; exact fun _ => cw_4
  | 5, h => cases h; exact fun _ => cw_5
  | 6, h => cases h; exact fun _ => cw_6
  | 7, h => cases h; exact fun _ => cw_7
  | 8, h => cases h; exact fun _ => cw_8
  | 9, h => cases h; exact fun _ => cw_9
  | 10, h => cases h; exact fun _ => cw_10
  | 11, h => cases h; exact fun _ => cw_11
  | 12, h => cases h; exact fun _ => cw_12
  | 13, h => cases h; exact fun _ => cw_13
  | 14, h => cases h; exact fun _ => cw_14
  | 15, h => cases h; exact fun _ => cw_15
  | n + 16, h => cases h
theorem cwS_1 (i : Nat) (y : Nat × List (Nat × Nat)) (h : mpS_1[i]? = some y) : cwP (256 * 0 + 16 * 1 + i) y := by
  unfold mpS_1 at h
  match i, h with
  | 0, h => cases h; exact fun _ => cw_16
  | 1, h => cases h; exact fun _ => cw_17
  | 2, h => cases h; exact fun _ => cw_18
  | 3, h => cases h; exact fun _ => cw_19
  | 4, h => cases h; exact fun _ => cw_20
  | 5, h => cases h; exact fun _ => cw_21
  | 6, h => cases h; exact fun _ => cw_22
  | 7, h => cases h; exact fun _ => cw_23
  | 8, h => cases h; exact fun _ => cw_24
  | 9, h => cases h; exact fun _ => cw_25
  | 10, h => cases h; exact fun _ => cw_26
  | 11, h => cases h; exact fun _ => cw_27
  | 12, h => cases h; exact fun _ => cw_28
  | 13, h => cases h; exact fun _ => cw_29
  | 14, h => cases h; exact fun _ => cw_30
  | 15, h => cases h; exact fun _ => cw_31
  | n + 16, h => cases h
theorem cwS_2 (i : Nat) (y : Nat × List (Nat × Nat)) (h : mpS_2[i]? = some y) : cwP (256 * 0 + 16 * 2 + i) y := by
  unfold mpS_2 at h
  match i, h with
  | 0, h => cases h; exact fun _ => cw_32
  | 1, h => cases h; exact fun _ => cw_33
  | 2, h => cases h; exact fun _ => cw_34
  | 3, h => cases h; exact fun _ => cw_35
  | 4, h => cases h; exact fun _ => cw_36
  | 5, h => cases h; exact fun _ => cw_37
  | 6, h => cases h; exact fun _ => cw_38
  | 7, h => cases h; exact fun _ => cw_39
  | 8, h => cases h; exact fun _ => cw_40
  | 9, h => cases h; exact fun _ => cw_41
  | 10, h => cases h; exact fun _ => cw_42
  | 11, h => cases h; exact fun _ => cw_43
  | 12, h => cases h; exact fun _ => cw_44
  | 13, h => cases h; exact fun _ => cw_45
  | 14, h => cases h; exact fun _ => cw_46
  | 15, h => cases h; exact fun _ => cw_47
  | n + 16, h => cases h
theorem cwS_3 (i : Nat) (y : Nat × List (Nat × Nat)) (h : mpS_3[i]? = some y) : cwP (256 * 0 + 16 * 3 + i) y := by
  unfold mpS_3 at h
  match i, h with
  | 0, h => cases h; exact fun _ => cw_48
  | 1, h => cases h; exact fun _ => cw_49
  | 2, h => cases h; exact fun _ => cw_50
  | 3, h => cases h; exact fun _ => cw_51
  | 4, h => cases h; exact fun _ => cw_52
  | 5, h => cases h; exact fun _ => cw_53
  | 6, h => cases h; exact fun _ => cw_54
  | 7, h => cases h; exact fun _ => cw_55
  | 8, h => cases h; exact fun _ => cw_56
  | 9, h => cases h; exact fun _ => cw_57
  | 10, h => cases h; exact fun _ => cw_58
  | 11, h => cases h; exact fun _ => cw_59
  | 12, h => cases h; exact fun _ => cw_60
  | 13, h => cases h; exact fun _ => cw_61
  | 14, h => cases h; exact fun _ => cw_62
  | 15, h => cases h; exact fun _ => cw_63
  | n + 16, h => cases h
theorem cwS_4 (i : Nat) (y : Nat × List (Nat × Nat)) (h : mpS_4[i]? = some y) : cwP (256 * 0 + 16 * 4 + i) y := by
  unfold mpS_4 at h
  match i, h with
  | 0, h => cases h; exact fun _ => cw_64
  | 1, h => cases h; exact fun _ => cw_65
  | 2, h => cases h; exact fun _ => cw_66
  | 3, h => cases h; exact fun _ => cw_67
  | 4, h => cases h; exact fun _ => cw_68
  | 5, h => cases h; exact fun _ => cw_69
  | 6, h => cases h; exact fun _ => cw_70
  | 7, h => cases h; exact fun _ => cw_71
  | 8, h => cases h; exact fun _ => cw_72
  | 9, h => cases h; exact fun _ => cw_73
  | 10, h => cases h; exact fun _ => cw_74
  | 11, h => cases h; exact fun _ => cw_75
  | 12, h => cases h; exact fun _ => cw_76
  | 13, h => cases h; exact fun _ => cw_77
  | 14, h => cases h; exact fun _ => cw_78
  | 15, h => cases h; exact fun _ => cw_79
  | n + 16, h => cases h
theorem cwS_5 (i : Nat) (y : Nat × List (Nat × Nat)) (h : mpS_5[i]? = some y) : cwP (256 * 0 + 16 * 5 + i) y := by
  unfold mpS_5 at h
  match i, h with
  | 0, h => cases h; exact fun _ => cw_80
  | 1, h => cases h; exact fun _ => cw_81
  | 2, h => cases h; exact fun _ => cw_82
  | 3, h => cases h; exact fun _ => cw_83
  | 4, h => cases h; exact fun _ => cw_84
  | 5, h => cases h; exact fun _ => cw_85
  | 6, h => cases h; exact fun _ => cw_86
  | 7, h => cases h; exact fun _ => cw_87
  | 8, h => cases h; exact fun _ => cw_88
  | 9, h => cases h; exact fun _ => cw_89
  | 10, h => cases h; exact fun _ => cw_90
  | 11, h => cases h; exact fun _ => cw_91
  | 12, h => cases h; exact fun _ => cw_92
  | 13, h => cases h; exact fun _ => cw_93
  | 14, h => cases h; exact fun _ => cw_94
  | 15, h => cases h; exact fun _ => cw_95
  | n + 16, h => cases h
theorem cwS_6 (i : Nat) (y : Nat × List (Nat × Nat)) (h : mpS_6[i]? = some y) : cwP (256 * 0 + 16 * 6 + i) y := by
  unfold mpS_6 at h
  match i, h with
  | 0, h => cases h; exact fun _ => cw_96
  | 1, h => cases h; exact fun _ => cw_97
  | 2, h => cases h; exact fun _ => cw_98
  | 3, h => cases h; exact fun _ => cw_99
  | 4, h => cases h; exact fun _ => cw_100
  | 5, h => cases h; exact fun _ => cw_101
  | 6, h => cases h; exact fun _ => cw_102
  | 7, h => cases h; exact fun _ => cw_103
  | 8, h => cases h; exact fun _ => cw_104
  | 9, h => cases h; exact fun _ => cw_105
  | 10, h => cases h; exact fun _ => cw_106
  | 11, h => cases h; exact fun _ => cw_107
  | 12, h => cases h; exact fun _ => cw_108
  | 13, h => cases h; exact fun _ => cw_109
  | 14, h => cases h; exact fun _ => cw_110
  | 15, h => cases h; exact fun _ => cw_111
  | n + 16, h => cases h
theorem cwS_7 (i : Nat) (y : Nat × List (Nat × Nat)) (h : mpS_7[i]? = some y) : cwP (256 * 0 + 16 * 7 + i) y := by
  unfold mpS_7 at h
  match i, h with
  | 0, h => cases h; exact fun _ => cw_112
  | 1, h => cases h; exact fun _ => cw_113
  | 2, h => cases h; exact fun _ => cw_114
  | 3, h => cases h; exact fun _ => cw_115
  | 4, h => cases h; exact fun _ => cw_116
  | 5, h => cases h; exact fun _ => cw_117
  | 6, h => cases h; exact fun _ => cw_118
  | 7, h => cases h; exact fun _ => cw_119
  | 8, h => cases h; exact fun _ => cw_120
  | 9, h => cases h; exact fun _ => cw_121
  | 10, h => cases h; exact fun _ => cw_122
  | 11, h => cases h; exact fun _ => cw_123
  | 12, h => cases h; exact fun _ => cw_124
  | 13, h => cases h; exact fun _ => cw_125
  | 14, h => cases h; exact fun _ => cw_126
  | 15, h => cases h; exact fun _ => cw_127
  | n + 16, h => cases h
theorem cwS_8 (i : Nat) (y : Nat × List (Nat × Nat)) (h : mpS_8[i]? = some y) : cwP (256 * 0 + 16 * 8 + i) y := by
  unfold mpS_8 at h
  match i, h with
  | 0, h => cases h; exact fun _ => cw_128
  | 1, h => cases h; exact fun _ => cw_129
  | 2, h => cases h; exact fun _ => cw_130
  | 3, h => cases h; exact fun _ => cw_131
  | 4, h => cases h; exact fun _ => cw_132
  | 5, h => cases h; exact fun _ => cw_133
  | 6, h => cases h; exact fun _ => cw_134
  | 7, h => cases h; exact fun _ => cw_135
  | 8, h => cases h; exact fun _ => cw_136
  | 9, h => cases h; exact fun _ => cw_137
  | 10, h => cases h; exact fun _ => cw_138
  | 11, h => cases h; exact fun _ => cw_139
  | 12, h => cases h; exact fun _ => cw_140
  | 13, h => cases h; exact fun _ => cw_141
  | 14, h => cases h; exact fun _ => cw_142
  | 15, h => cases h; exact fun _ => cw_143
  | n + 16, h => cases h
theorem cwS_9 (i : Nat) (y : Nat × List (Nat × Nat)) (h : mpS_9[i]? = some y) : cwP (256 * 0 + 16 * 9 + i) y := by
  unfold mpS_9 at h
  match i, h with
  | 0, h => cases h; exact fun _ => cw_144
  | 1, h => cases h; exact fun _ => cw_145
  | 2, h => cases h; exact fun _ => cw_146
  | 3, h => cases h; exact fun _ => cw_147
  | 4, h => cases h; exact fun _ => cw_148
  | 5, h => cases h; exact fun _ => cw_149
  | 6, h => cases h; exact fun _ => cw_150
  | 7, h => cases h; exact fun _ => cw_151
  | 8, h => cases h; exact fun _ => cw_152
  | 9, h => cases h; exact fun _ => cw_153
  | 10, h => cases h; exact fun _ => cw_154
  | 11, h => cases h; exact fun _ => cw_155
  | 12, h => cases h; exact fun _ => cw_156
  | 13, h => cases h; exact fun _ => cw_157
  | 14, h => cases h; exact fun _ => cw_158
  | 15, h => cases h; exact fun _ => cw_159
  | n + 16, h => cases h
theorem cwS_10 (i : Nat) (y : Nat × List (Nat × Nat)) (h : mpS_10[i]? = some y) : cwP (256 * 0 + 16 * 10 + i) y := by
  unfold mpS_10 at h
  match i, h with
  | 0, h => cases h; exact fun _ => cw_160
  | 1, h => cases h; exact fun _ => cw_161
  | 2, h => cases h; exact fun _ => cw_162
  | 3, h => cases h; exact fun _ => cw_163
  | 4, h => cases h; exact fun _ => cw_164
  | 5, h => cases h; exact fun _ => cw_165
  | 6, h => cases h; exact fun _ => cw_166
  | 7, h => cases h; exact fun _ => cw_167
  | 8, h => cases h; exact fun _ => cw_168
  | 9, h => cases h; exact fun _ => cw_169
  | 10, h => cases h; exact fun _ => cw_170
  | 11, h => cases h; exact fun _ => cw_171
  | 12, h => cases h; exact fun _ => cw_172
  | 13, h => cases h; exact fun _ => cw_173
  | 14, h => cases h; exact fun _ => cw_174
  | 15, h => cases h; exact fun _ => cw_175
  | n + 16, h => cases h
theorem cwS_11 (i : Nat) (y : Nat × List (Nat × Nat)) (h : mpS_11[i]? = some y) : cwP (256 * 0 + 16 * 11 + i) y := by
  unfold mpS_11 at h
  match i, h with
  | 0, h => cases h; exact fun _ => cw_176
  | 1, h => cases h; exact fun _ => cw_177
  | 2, h => cases h; exact fun _ => cw_178
  | 3, h => cases h; exact fun _ => cw_179
  | 4, h => cases h; exact fun _ => cw_180
  | 5, h => cases h; exact fun _ => cw_181
  | 6, h => cases h; exact fun _ => cw_182
  | 7, h => cases h; exact fun _ => cw_183
  | 8, h => cases h; exact fun _ => cw_184
  | 9, h => cases h; exact fun _ => cw_185
  | 10, h => cases h; exact fun q => absurd rfl q
  | 11, h => cases h; exact fun _ => cw_187
  | 12, h => cases h; exact fun _ => cw_188
  | 13, h => cases h; exact fun _ => cw_189
  | 14, h => cases h; exact fun _ => cw_190
  | 15, h => cases h; exact fun _ => cw_191
  | n + 16, h => cases h
theorem cwS_12 (i : Nat) (y : Nat × List (Nat × Nat)) (h : mpS_12[i]? = some y) : cwP (256 * 0 + 16 * 12 + i) y := by
  unfold mpS_12 at h
  match i, h with
  | 0, h => cases h; exact fun _ => cw_192
  | 1, h => cases h; exact fun _ => cw_193
  | 2, h => cases h; exact fun _ => cw_194
  | 3, h => cases h; exact fun _ => cw_195
  | 4, h => cases h; exact fun _ => cw_196
  | 5, h => cases h; exact fun _ => cw_197
  | 6, h => cases h; exact fun _ => cw_198
  | 7, h => cases h; exact fun _ => cw_199
  | 8, h => cases h; exact fun _ => cw_200
  | 9, h => cases h; exact fun _ => cw_201
  | 10, h => cases h; exact fun _ => cw_202
  | 11, h => cases h; exact fun _ => cw_203
  | 12, h => cases h; exact fun _ => cw_204
  | 13, h => cases h; exact fun _ => cw_205
  | 14, h => cases h; exact fun _ => cw_206
  | 15, h => cases h; exact fun _ => cw_207
  | n + 16, h => cases h
theorem cwS_13 (i : Nat) (y : Nat × List (Nat × Nat)) (h : mpS_13[i]? = some y) : cwP (256 * 0 + 16 * 13 + i) y := by
  unfold mpS_13 at h
  match i, h with
  | 0, h => cases h; exact fun _ => cw_208
  | 1, h => cases h; exact fun _ => cw_209
  | 2, h => cases h; exact fun _ => cw_210
  | 3, h => cases h; exact fun _ => cw_211
  | 4, h => cases h; exact fun _ => cw_212
  | 5, h => cases h; exact fun _ => cw_213
  | 6, h => cases h; exact fun _ => cw_214
  | 7, h => cases h; exact fun _ => cw_215
  | 8, h => cases h; exact fun _ => cw_216
  | 9, h => cases h; exact fun _ => cw_217
  | 10, h => cases h; exact fun _ => cw_218
  | 11, h => cases h; exact fun _ => cw_219
  | 12, h => cases h; exact fun _ => cw_220
  | 13, h => cases h; exact fun _ => cw_221
  | 14, h => cases h; exact fun _ => cw_222
  | 15, h => cases h; exact fun _ => cw_223
  | n + 16, h => cases h
theorem cwS_14 (i : Nat) (y : Nat × List (Nat × Nat)) (h : mpS_14[i]? = some y) : cwP (256 * 0 + 16 * 14 + i) y := by
  unfold mpS_14 at h
  match i, h with
  | 0, h => cases h; exact fun _ => cw_224
  | 1, h => cases h; exact fun _ => cw_225
  | 2, h => cases h; exact fun _ => cw_226
  | 3, h => cases h; exact fun _ => cw_227
  | 4, h => cases h; exact fun _ => cw_228
  | 5, h => cases h; exact fun _ => cw_229
  | 6, h => cases h; exact fun _ => cw_230
  | 7, h => cases h; exact fun _ => cw_231
  | 8, h => cases h; exact fun _ => cw_232
  | 9, h => cases h; exact fun _ => cw_233
  | 10, h => cases h; exact fun _ => cw_234
  | 11, h => cases h; exact fun _ => cw_235
  | 12, h => cases h; exact fun _ => cw_236
  | 13, h => cases h; exact fun _ => cw_237
  | 14, h => cases h; exact fun _ => cw_238
  | 15, h => cases h; exact fun _ => cw_239
  | n + 16, h => cases h
theorem cwS_15 (i : Nat) (y : Nat × List (Nat × Nat)) (h : mpS_15[i]? = some y) : cwP (256 * 0 + 16 * 15 + i) y := by
  unfold mpS_15 at h
  match i, h with
  | 0, h => cases h; exact fun _ => cw_240
  | 1, h => cases h; exact fun _ => cw_241
  | 2, h => cases h; exact fun _ => cw_242
  | 3, h => cases h; exact fun _ => cw_243
  | 4, h => cases h; exact fun _ => cw_244
  | 5, h => cases h; exact fun _ => cw_245
  | 6, h => cases h; exact fun _ => cw_246
  | 7, h => cases h; exact fun _ => cw_247
  | 8, h => cases h; exact fun _ => cw_248
  | 9, h => cases h; exact fun _ => cw_249
  | 10, h => cases h; exact fun _ => cw_250
  | 11, h => cases h; exact fun _ => cw_251
  | 12, h => cases h; exact fun _ => cw_252
  | 13, h => cases h; exact fun _ => cw_253
  | 14, h => cases h; exact fun _ => cw_254
  | 15, h => cases h; exact fun _ => cw_255
  | n + 16, h => cases h
theorem cwS_16 (i : Nat) (y : Nat × List (Nat × Nat)) (h : mpS_16[i]? = some y) : cwP (256 * 1 + 16 * 0 + i) y := by
  unfold mpS_16 at h
  match i, h with
  | 0, h => cases h; exact fun _ => cw_256
  | 1, h => cases h; exact fun _ => cw_257
  | 2, h => cases h; exact fun _ => cw_258
  | 3, h => cases h; exact fun _ => cw_259
  | 4, h => cases h; exact fun _ => cw_260
  | 5, h => cases h; exact fun _ => cw_261
  | 6, h => cases h; exact fun _ => cw_262
  | 7, h => cases h; exact fun _ => cw_263
  | 8, h => cases h; exact fun _ => cw_264
  | 9, h => cases h; exact fun _ => cw_265
  | 10, h => cases h; exact fun _ => cw_266
  | 11, h => cases h; exact fun _ => cw_267
  | 12, h => cases h; exact fun _ => cw_268
  | 13, h => cases h; exact fun _ => cw_269
  | 14, h => cases h; exact fun _ => cw_270
  | 15, h => cases h; exact fun _ => cw_271
  | n + 16, h => cases h
theorem cwS_17 (i : Nat) (y : Nat × List (Nat × Nat)) (h : mpS_17[i]? = some y) : cwP (256 * 1 + 16 * 1 + i) y := by
  unfold mpS_17 at h
  match i, h with
  | 0, h => cases h; exact fun _ => cw_272
  | 1, h => cases h; exact fun _ => cw_273
  | 2, h => cases h; exact fun _ => cw_274
  | 3, h => cases h; exact fun _ => cw_275
  | 4, h => cases h; exact fun _ => cw_276
  | 5, h => cases h; exact fun _ => cw_277
  | 6, h => cases h; exact fun _ => cw_278
  | 7, h => cases h; exact fun _ => cw_279
  | 8, h => cases h; exact fun _ => cw_280
  | 9, h => cases h; exact fun _ => cw_281
  | 10, h => cases h; exact fun _ => cw_282
  | 11, h => cases h; exact fun _ => cw_283
  | 12, h => cases h; exact fun _ => cw_284
  | 13, h => cases h; exact fun _ => cw_285
  | 14, h => cases h; exact fun _ => cw_286
  | 15, h => cases h; exact fun _ => cw_287
  | n + 16, h => cases h
theorem cwS_18 (i : Nat) (y : Nat × List (Nat × Nat)) (h : mpS_18[i]? = some y) : cwP (256 * 1 + 16 * 2 + i) y := by
  unfold mpS_18 at h
  match i, h with
  | 0, h => cases h; exact fun _ => cw_288
  | 1, h => cases h; exact fun _ => cw_289
  | 2, h => cases h; exact fun _ => cw_290
  | 3, h => cases h; exact fun _ => cw_291
  | 4, h => cases h; exact fun _ => cw_292
  | 5, h => cases h; exact fun _ => cw_293
  | 6, h => cases h; exact fun _ => cw_294
  | 7, h => cases h; exact fun _ => cw_295
  | 8, h => cases h; exact fun _ => cw_296
  | 9, h => cases h; exact fun _ => cw_297
  | 10, h => cases h; exact fun _ => cw_298
  | 11, h => cases h; exact fun _ => cw_299
  | 12, h => cases h; exact fun q => absurd rfl q
  | 13, h => cases h; exact fun q => absurd rfl q
  | 14, h => cases h; exact fun q => absurd rfl q
  | 15, h => cases h; exact fun q => absurd rfl q
  | n + 16, h => cases h
theorem cwS_19 (i : Nat) (y : Nat × List (Nat × Nat)) (h : mpS_19[i]? = some y) : cwP (256 * 1 + 16 * 3 + i) y := by
  unfold mpS_19 at h
  match i, h with
  | 0, h => cases h; exact fun q => absurd rfl q
  | 1, h => cases h; exact fun q => absurd rfl q
  | 2, h => cases h; exact fun q => absurd rfl q
  | 3, h => cases h; exact fun q => absurd rfl q
  | 4, h => cases h; exact fun q => absurd rfl q
  | 5, h => cases h; exact fun q => absurd rfl q
  | 6, h => cases h; exact fun q => absurd rfl q
  | 7, h => cases h; exact fun q => absurd rfl q
  | 8, h => cases h; exact fun _ => cw_312
  | 9, h => cases h; exact fun q => absurd rfl q
  | 10, h => cases h; exact fun _ => cw_314
  | 11, h => cases h; exact fun _ => cw_315
  | 12, h => cases h; exact fun _ => cw_316
  | 13, h => cases h; exact fun _ => cw_317
  | 14, h => cases h; exact fun _ => cw_318
  | 15, h => cases h; exact fun _ => cw_319
  | n + 16, h => cases h
theorem cwS_20 (i : Nat) (y : Nat × List (Nat × Nat)) (h : mpS_20[i]? = some y) : cwP (256 * 1 + 16 * 4 + i) y := by
  unfold mpS_20 at h
  match i, h with
  | 0, h => cases h; exact fun _ => cw_320
  | 1, h => cases h; exact fun _ => cw_321
  | 2, h => cases h; exact fun _ => cw_322
  | 3, h => cases h; exact fun _ => cw_323
  | 4, h => cases h; exact fun _ => cw_324
  | 5, h => cases h; exact fun _ => cw_325
  | 6, h => cases h; exact fun _ => cw_326
  | 7, h => cases h; exact fun _ => cw_327
  | 8, h => cases h; exact fun _ => cw_328
  | 9, h => cases h; exact fun _ => cw_329
  | 10, h => cases h; exact fun _ => cw_330
  | 11, h => cases h; exact fun _ => cw_331
  | 12, h => cases h; exact fun _ => cw_332
  | 13, h => cases h; exact fun _ => cw_333
  | 14, h => cases h; exact fun _ => cw_334
  | 15, h => cases h; exact fun _ => cw_335
  | n + 16, h => cases h
theorem cwS_21 (i : Nat) (y : Nat × List (Nat × Nat)) (h : mpS_21[i]? = some y) : cwP (256 * 1 + 16 * 5 + i) y := by
  unfold mpS_21 at h
  match i, h with
  | 0, h => cases h; exact fun _ => cw_336
  | 1, h => cases h; exact fun _ => cw_337
  | 2, h => cases h; exact fun _ => cw_338
  | 3, h => cases h; exact fun _ => cw_339
  | 4, h => cases h; exact fun _ => cw_340
  | 5, h => cases h; exact fun _ => cw_341
  | 6, h => cases h; exact fun _ => cw_342
  | 7, h => cases h; exact fun _ => cw_343
  | 8, h => cases h; exact fun _ => cw_344
  | 9, h => cases h; exact fun _ => cw_345
  | 10, h => cases h; exact fun _ => cw_346
  | 11, h => cases h; exact fun _ => cw_347
  | 12, h => cases h; exact fun _ => cw_348
  | 13, h => cases h; exact fun _ => cw_349
  | 14, h => cases h; exact fun q => absurd rfl q
  | n + 15, h => cases h
theorem cw_all : P3 cwP mpAll := by
  intro A B a b h1 h2 i y hy
  unfold mpAll at h1
  match A, h1 with
  | 0, h1 =>
    cases h1
    match B, h2 with
    | 0, h2 => cases h2; exact cwS_0 i y hy
    | 1, h2 => cases h2; exact cwS_1 i y hy
    | 2, h2 => cases h2; exact cwS_2 i y hy
    | 3, h2 => cases h2; exact cwS_3 i y hy
    | 4, h2 => cases h2; exact cwS_4 i y hy
    | 5, h2 => cases h2; exact cwS_5 i y hy
    | 6, h2 => cases h2; exact cwS_6 i y hy
    | 7, h2 => cases h2; exact cwS_7 i y hy
    | 8, h2 => cases h2; exact cwS_8 i y hy
    | 9, h2 => cases h2; exact cwS_9 i y hy
    | 10, h2 => cases h2; exact cwS_10 i y hy
    | 11, h2 => cases h2; exact cwS_11 i y hy
    | 12, h2 => cases h2; exact cwS_12 i y hy
    | 13, h2 => cases h2; exact cwS_13 i y hy
    | 14, h2 => cases h2; exact cwS_14 i y hy
    | 15, h2 => cases h2; exact cwS_15 i y hy
    | n + 16, h2 => cases h2
  | 1, h1 =>
    cases h1
    match B, h2 with
    | 0, h2 => cases h2; exact cwS_16 i y hy
    | 1, h2 => cases h2; exact cwS_17 i y hy
    | 2, h2 => cases h2; exact cwS_18 i y hy
    | 3, h2 => cases h2; exact cwS_19 i y hy
    | 4, h2 => cases h2; exact cwS_20 i y hy
    | 5, h2 => cases h2; exact cwS_21 i y hy
    | n + 6, h2 => cases h2
  | n + 2, h1 => cases h1
def mkA (a : Nat) : Nat := mkO mpAll a
theorem mk_ok : mthX cx0 mkA := mth_of cls_all cw_all mp_all
