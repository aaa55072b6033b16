/-! printed by wip/whole/gen_dec.py: decode rows -/
theorem dX12_init_0 : Dc mX12_init 0 (.aload_n 0) 1 1 := ⟨zo_42 (by decide +kernel), rfl⟩
theorem dX12_init_1 : Dc mX12_init 1 (.invokespecial 1) 3 4 := ⟨zo_183 (w := 0) (x := 1) (by decide +kernel), rfl⟩
theorem dX12_init_4 : Dc mX12_init 4 (.aload_n 0) 1 5 := ⟨zo_42 (by decide +kernel), rfl⟩
theorem dX12_init_5 : Dc mX12_init 5 (.sipush 700) 3 8 := ⟨zo_17 (w := 2) (x := 188) (by decide +kernel), rfl⟩
theorem dX12_init_8 : Dc mX12_init 8 (.newarray .int) 2 10 := ⟨by decide +kernel, rfl⟩
theorem dX12_init_10 : Dc mX12_init 10 (.putfield 7) 3 13 := ⟨zo_181 (w := 0) (x := 7) (by decide +kernel), rfl⟩
theorem dX12_init_13 : Dc mX12_init 13 (.aload_n 0) 1 14 := ⟨zo_42 (by decide +kernel), rfl⟩
theorem dX12_init_14 : Dc mX12_init 14 (.bipush 20) 2 16 := ⟨zo_16 (w := 20) (by decide +kernel), rfl⟩
theorem dX12_init_16 : Dc mX12_init 16 (.newarray .int) 2 18 := ⟨by decide +kernel, rfl⟩
theorem dX12_init_18 : Dc mX12_init 18 (.dup) 1 19 := ⟨zo_89 (by decide +kernel), rfl⟩
theorem dX12_init_19 : Dc mX12_init 19 (.iconst 0) 1 20 := ⟨zo_3 (by decide +kernel), rfl⟩
theorem dX12_init_20 : Dc mX12_init 20 (.iconst 0) 1 21 := ⟨zo_3 (by decide +kernel), rfl⟩
theorem dX12_init_21 : Dc mX12_init 21 (.iastore) 1 22 := ⟨zo_79 (by decide +kernel), rfl⟩
theorem dX12_init_22 : Dc mX12_init 22 (.dup) 1 23 := ⟨zo_89 (by decide +kernel), rfl⟩
theorem dX12_init_23 : Dc mX12_init 23 (.iconst 1) 1 24 := ⟨zo_4 (by decide +kernel), rfl⟩
theorem dX12_init_24 : Dc mX12_init 24 (.iconst 0) 1 25 := ⟨zo_3 (by decide +kernel), rfl⟩
theorem dX12_init_25 : Dc mX12_init 25 (.iastore) 1 26 := ⟨zo_79 (by decide +kernel), rfl⟩
theorem dX12_init_26 : Dc mX12_init 26 (.dup) 1 27 := ⟨zo_89 (by decide +kernel), rfl⟩
theorem dX12_init_27 : Dc mX12_init 27 (.iconst 2) 1 28 := ⟨zo_5 (by decide +kernel), rfl⟩
theorem dX12_init_28 : Dc mX12_init 28 (.iconst 0) 1 29 := ⟨zo_3 (by decide +kernel), rfl⟩
theorem dX12_init_29 : Dc mX12_init 29 (.iastore) 1 30 := ⟨zo_79 (by decide +kernel), rfl⟩
theorem dX12_init_30 : Dc mX12_init 30 (.dup) 1 31 := ⟨zo_89 (by decide +kernel), rfl⟩
theorem dX12_init_31 : Dc mX12_init 31 (.iconst 3) 1 32 := ⟨zo_6 (by decide +kernel), rfl⟩
theorem dX12_init_32 : Dc mX12_init 32 (.iconst 0) 1 33 := ⟨zo_3 (by decide +kernel), rfl⟩
theorem dX12_init_33 : Dc mX12_init 33 (.iastore) 1 34 := ⟨zo_79 (by decide +kernel), rfl⟩
theorem dX12_init_34 : Dc mX12_init 34 (.dup) 1 35 := ⟨zo_89 (by decide +kernel), rfl⟩
theorem dX12_init_35 : Dc mX12_init 35 (.iconst 4) 1 36 := ⟨zo_7 (by decide +kernel), rfl⟩
theorem dX12_init_36 : Dc mX12_init 36 (.iconst 0) 1 37 := ⟨zo_3 (by decide +kernel), rfl⟩
theorem dX12_init_37 : Dc mX12_init 37 (.iastore) 1 38 := ⟨zo_79 (by decide +kernel), rfl⟩
theorem dX12_init_38 : Dc mX12_init 38 (.dup) 1 39 := ⟨zo_89 (by decide +kernel), rfl⟩
theorem dX12_init_39 : Dc mX12_init 39 (.iconst 5) 1 40 := ⟨zo_8 (by decide +kernel), rfl⟩
theorem dX12_init_40 : Dc mX12_init 40 (.iconst 0) 1 41 := ⟨zo_3 (by decide +kernel), rfl⟩
theorem dX12_init_41 : Dc mX12_init 41 (.iastore) 1 42 := ⟨zo_79 (by decide +kernel), rfl⟩
theorem dX12_init_42 : Dc mX12_init 42 (.dup) 1 43 := ⟨zo_89 (by decide +kernel), rfl⟩
theorem dX12_init_43 : Dc mX12_init 43 (.bipush 6) 2 45 := ⟨zo_16 (w := 6) (by decide +kernel), rfl⟩
theorem dX12_init_45 : Dc mX12_init 45 (.iconst 0) 1 46 := ⟨zo_3 (by decide +kernel), rfl⟩
theorem dX12_init_46 : Dc mX12_init 46 (.iastore) 1 47 := ⟨zo_79 (by decide +kernel), rfl⟩
theorem dX12_init_47 : Dc mX12_init 47 (.dup) 1 48 := ⟨zo_89 (by decide +kernel), rfl⟩
theorem dX12_init_48 : Dc mX12_init 48 (.bipush 7) 2 50 := ⟨zo_16 (w := 7) (by decide +kernel), rfl⟩
theorem dX12_init_50 : Dc mX12_init 50 (.bipush 99) 2 52 := ⟨zo_16 (w := 99) (by decide +kernel), rfl⟩
theorem dX12_init_52 : Dc mX12_init 52 (.iastore) 1 53 := ⟨zo_79 (by decide +kernel), rfl⟩
theorem dX12_init_53 : Dc mX12_init 53 (.dup) 1 54 := ⟨zo_89 (by decide +kernel), rfl⟩
theorem dX12_init_54 : Dc mX12_init 54 (.bipush 8) 2 56 := ⟨zo_16 (w := 8) (by decide +kernel), rfl⟩
theorem dX12_init_56 : Dc mX12_init 56 (.iconst 0) 1 57 := ⟨zo_3 (by decide +kernel), rfl⟩
theorem dX12_init_57 : Dc mX12_init 57 (.iastore) 1 58 := ⟨zo_79 (by decide +kernel), rfl⟩
theorem dX12_init_58 : Dc mX12_init 58 (.dup) 1 59 := ⟨zo_89 (by decide +kernel), rfl⟩
theorem dX12_init_59 : Dc mX12_init 59 (.bipush 9) 2 61 := ⟨zo_16 (w := 9) (by decide +kernel), rfl⟩
theorem dX12_init_61 : Dc mX12_init 61 (.iconst 0) 1 62 := ⟨zo_3 (by decide +kernel), rfl⟩
theorem dX12_init_62 : Dc mX12_init 62 (.iastore) 1 63 := ⟨zo_79 (by decide +kernel), rfl⟩
theorem dX12_init_63 : Dc mX12_init 63 (.dup) 1 64 := ⟨zo_89 (by decide +kernel), rfl⟩
theorem dX12_init_64 : Dc mX12_init 64 (.bipush 10) 2 66 := ⟨zo_16 (w := 10) (by decide +kernel), rfl⟩
theorem dX12_init_66 : Dc mX12_init 66 (.iconst 0) 1 67 := ⟨zo_3 (by decide +kernel), rfl⟩
theorem dX12_init_67 : Dc mX12_init 67 (.iastore) 1 68 := ⟨zo_79 (by decide +kernel), rfl⟩
theorem dX12_init_68 : Dc mX12_init 68 (.dup) 1 69 := ⟨zo_89 (by decide +kernel), rfl⟩
theorem dX12_init_69 : Dc mX12_init 69 (.bipush 11) 2 71 := ⟨zo_16 (w := 11) (by decide +kernel), rfl⟩
theorem dX12_init_71 : Dc mX12_init 71 (.iconst 0) 1 72 := ⟨zo_3 (by decide +kernel), rfl⟩
theorem dX12_init_72 : Dc mX12_init 72 (.iastore) 1 73 := ⟨zo_79 (by decide +kernel), rfl⟩
theorem dX12_init_73 : Dc mX12_init 73 (.dup) 1 74 := ⟨zo_89 (by decide +kernel), rfl⟩
theorem dX12_init_74 : Dc mX12_init 74 (.bipush 12) 2 76 := ⟨zo_16 (w := 12) (by decide +kernel), rfl⟩
theorem dX12_init_76 : Dc mX12_init 76 (.iconst 0) 1 77 := ⟨zo_3 (by decide +kernel), rfl⟩
theorem dX12_init_77 : Dc mX12_init 77 (.iastore) 1 78 := ⟨zo_79 (by decide +kernel), rfl⟩
theorem dX12_init_78 : Dc mX12_init 78 (.dup) 1 79 := ⟨zo_89 (by decide +kernel), rfl⟩
theorem dX12_init_79 : Dc mX12_init 79 (.bipush 13) 2 81 := ⟨zo_16 (w := 13) (by decide +kernel), rfl⟩
theorem dX12_init_81 : Dc mX12_init 81 (.iconst 0) 1 82 := ⟨zo_3 (by decide +kernel), rfl⟩
theorem dX12_init_82 : Dc mX12_init 82 (.iastore) 1 83 := ⟨zo_79 (by decide +kernel), rfl⟩
theorem dX12_init_83 : Dc mX12_init 83 (.dup) 1 84 := ⟨zo_89 (by decide +kernel), rfl⟩
theorem dX12_init_84 : Dc mX12_init 84 (.bipush 14) 2 86 := ⟨zo_16 (w := 14) (by decide +kernel), rfl⟩
theorem dX12_init_86 : Dc mX12_init 86 (.iconst 0) 1 87 := ⟨zo_3 (by decide +kernel), rfl⟩
theorem dX12_init_87 : Dc mX12_init 87 (.iastore) 1 88 := ⟨zo_79 (by decide +kernel), rfl⟩
theorem dX12_init_88 : Dc mX12_init 88 (.dup) 1 89 := ⟨zo_89 (by decide +kernel), rfl⟩
theorem dX12_init_89 : Dc mX12_init 89 (.bipush 15) 2 91 := ⟨zo_16 (w := 15) (by decide +kernel), rfl⟩
theorem dX12_init_91 : Dc mX12_init 91 (.iconst 0) 1 92 := ⟨zo_3 (by decide +kernel), rfl⟩
theorem dX12_init_92 : Dc mX12_init 92 (.iastore) 1 93 := ⟨zo_79 (by decide +kernel), rfl⟩
theorem dX12_init_93 : Dc mX12_init 93 (.dup) 1 94 := ⟨zo_89 (by decide +kernel), rfl⟩
theorem dX12_init_94 : Dc mX12_init 94 (.bipush 16) 2 96 := ⟨zo_16 (w := 16) (by decide +kernel), rfl⟩
theorem dX12_init_96 : Dc mX12_init 96 (.iconst 0) 1 97 := ⟨zo_3 (by decide +kernel), rfl⟩
theorem dX12_init_97 : Dc mX12_init 97 (.iastore) 1 98 := ⟨zo_79 (by decide +kernel), rfl⟩
theorem dX12_init_98 : Dc mX12_init 98 (.dup) 1 99 := ⟨zo_89 (by decide +kernel), rfl⟩
theorem dX12_init_99 : Dc mX12_init 99 (.bipush 17) 2 101 := ⟨zo_16 (w := 17) (by decide +kernel), rfl⟩
theorem dX12_init_101 : Dc mX12_init 101 (.bipush 99) 2 103 := ⟨zo_16 (w := 99) (by decide +kernel), rfl⟩
theorem dX12_init_103 : Dc mX12_init 103 (.iastore) 1 104 := ⟨zo_79 (by decide +kernel), rfl⟩
theorem dX12_init_104 : Dc mX12_init 104 (.dup) 1 105 := ⟨zo_89 (by decide +kernel), rfl⟩
theorem dX12_init_105 : Dc mX12_init 105 (.bipush 18) 2 107 := ⟨zo_16 (w := 18) (by decide +kernel), rfl⟩
theorem dX12_init_107 : Dc mX12_init 107 (.iconst 0) 1 108 := ⟨zo_3 (by decide +kernel), rfl⟩
theorem dX12_init_108 : Dc mX12_init 108 (.iastore) 1 109 := ⟨zo_79 (by decide +kernel), rfl⟩
theorem dX12_init_109 : Dc mX12_init 109 (.dup) 1 110 := ⟨zo_89 (by decide +kernel), rfl⟩
theorem dX12_init_110 : Dc mX12_init 110 (.bipush 19) 2 112 := ⟨zo_16 (w := 19) (by decide +kernel), rfl⟩
theorem dX12_init_112 : Dc mX12_init 112 (.iconst 0) 1 113 := ⟨zo_3 (by decide +kernel), rfl⟩
theorem dX12_init_113 : Dc mX12_init 113 (.iastore) 1 114 := ⟨zo_79 (by decide +kernel), rfl⟩
theorem dX12_init_114 : Dc mX12_init 114 (.putfield 13) 3 117 := ⟨zo_181 (w := 0) (x := 13) (by decide +kernel), rfl⟩
theorem dX12_init_117 : Dc mX12_init 117 (.aload_n 0) 1 118 := ⟨zo_42 (by decide +kernel), rfl⟩
theorem dX12_init_118 : Dc mX12_init 118 (.bipush 12) 2 120 := ⟨zo_16 (w := 12) (by decide +kernel), rfl⟩
theorem dX12_init_120 : Dc mX12_init 120 (.newarray .int) 2 122 := ⟨by decide +kernel, rfl⟩
theorem dX12_init_122 : Dc mX12_init 122 (.putfield 16) 3 125 := ⟨zo_181 (w := 0) (x := 16) (by decide +kernel), rfl⟩
theorem dX12_init_125 : Dc mX12_init 125 (.aload_n 0) 1 126 := ⟨zo_42 (by decide +kernel), rfl⟩
theorem dX12_init_126 : Dc mX12_init 126 (.bipush 12) 2 128 := ⟨zo_16 (w := 12) (by decide +kernel), rfl⟩
theorem dX12_init_128 : Dc mX12_init 128 (.newarray .int) 2 130 := ⟨by decide +kernel, rfl⟩
theorem dX12_init_130 : Dc mX12_init 130 (.putfield 19) 3 133 := ⟨zo_181 (w := 0) (x := 19) (by decide +kernel), rfl⟩
theorem dX12_init_133 : Dc mX12_init 133 (.aload_n 0) 1 134 := ⟨zo_42 (by decide +kernel), rfl⟩
theorem dX12_init_134 : Dc mX12_init 134 (.bipush 12) 2 136 := ⟨zo_16 (w := 12) (by decide +kernel), rfl⟩
theorem dX12_init_136 : Dc mX12_init 136 (.newarray .int) 2 138 := ⟨by decide +kernel, rfl⟩
theorem dX12_init_138 : Dc mX12_init 138 (.putfield 22) 3 141 := ⟨zo_181 (w := 0) (x := 22) (by decide +kernel), rfl⟩
theorem dX12_init_141 : Dc mX12_init 141 (.aload_n 0) 1 142 := ⟨zo_42 (by decide +kernel), rfl⟩
theorem dX12_init_142 : Dc mX12_init 142 (.bipush 16) 2 144 := ⟨zo_16 (w := 16) (by decide +kernel), rfl⟩
theorem dX12_init_144 : Dc mX12_init 144 (.newarray .int) 2 146 := ⟨by decide +kernel, rfl⟩
theorem dX12_init_146 : Dc mX12_init 146 (.putfield 25) 3 149 := ⟨zo_181 (w := 0) (x := 25) (by decide +kernel), rfl⟩
theorem dX12_init_149 : Dc mX12_init 149 (.aload_n 0) 1 150 := ⟨zo_42 (by decide +kernel), rfl⟩
theorem dX12_init_150 : Dc mX12_init 150 (.bipush 16) 2 152 := ⟨zo_16 (w := 16) (by decide +kernel), rfl⟩
theorem dX12_init_152 : Dc mX12_init 152 (.newarray .int) 2 154 := ⟨by decide +kernel, rfl⟩
theorem dX12_init_154 : Dc mX12_init 154 (.putfield 28) 3 157 := ⟨zo_181 (w := 0) (x := 28) (by decide +kernel), rfl⟩
theorem dX12_init_157 : Dc mX12_init 157 (.aload_n 0) 1 158 := ⟨zo_42 (by decide +kernel), rfl⟩
theorem dX12_init_158 : Dc mX12_init 158 (.bipush 16) 2 160 := ⟨zo_16 (w := 16) (by decide +kernel), rfl⟩
theorem dX12_init_160 : Dc mX12_init 160 (.newarray .int) 2 162 := ⟨by decide +kernel, rfl⟩
theorem dX12_init_162 : Dc mX12_init 162 (.putfield 31) 3 165 := ⟨zo_181 (w := 0) (x := 31) (by decide +kernel), rfl⟩
theorem dX12_init_165 : Dc mX12_init 165 (.aload_n 0) 1 166 := ⟨zo_42 (by decide +kernel), rfl⟩
theorem dX12_init_166 : Dc mX12_init 166 (.bipush 96) 2 168 := ⟨zo_16 (w := 96) (by decide +kernel), rfl⟩
theorem dX12_init_168 : Dc mX12_init 168 (.newarray .int) 2 170 := ⟨by decide +kernel, rfl⟩
theorem dX12_init_170 : Dc mX12_init 170 (.putfield 34) 3 173 := ⟨zo_181 (w := 0) (x := 34) (by decide +kernel), rfl⟩
theorem dX12_init_173 : Dc mX12_init 173 (.aload_n 0) 1 174 := ⟨zo_42 (by decide +kernel), rfl⟩
theorem dX12_init_174 : Dc mX12_init 174 (.bipush 8) 2 176 := ⟨zo_16 (w := 8) (by decide +kernel), rfl⟩
theorem dX12_init_176 : Dc mX12_init 176 (.newarray .int) 2 178 := ⟨by decide +kernel, rfl⟩
theorem dX12_init_178 : Dc mX12_init 178 (.putfield 37) 3 181 := ⟨zo_181 (w := 0) (x := 37) (by decide +kernel), rfl⟩
theorem dX12_init_181 : Dc mX12_init 181 (.aload_n 0) 1 182 := ⟨zo_42 (by decide +kernel), rfl⟩
theorem dX12_init_182 : Dc mX12_init 182 (.bipush 8) 2 184 := ⟨zo_16 (w := 8) (by decide +kernel), rfl⟩
theorem dX12_init_184 : Dc mX12_init 184 (.newarray .int) 2 186 := ⟨by decide +kernel, rfl⟩
theorem dX12_init_186 : Dc mX12_init 186 (.putfield 40) 3 189 := ⟨zo_181 (w := 0) (x := 40) (by decide +kernel), rfl⟩
theorem dX12_init_189 : Dc mX12_init 189 (.aload_n 0) 1 190 := ⟨zo_42 (by decide +kernel), rfl⟩
theorem dX12_init_190 : Dc mX12_init 190 (.bipush 8) 2 192 := ⟨zo_16 (w := 8) (by decide +kernel), rfl⟩
theorem dX12_init_192 : Dc mX12_init 192 (.newarray .int) 2 194 := ⟨by decide +kernel, rfl⟩
theorem dX12_init_194 : Dc mX12_init 194 (.putfield 43) 3 197 := ⟨zo_181 (w := 0) (x := 43) (by decide +kernel), rfl⟩
theorem dX12_init_197 : Dc mX12_init 197 (.aload_n 0) 1 198 := ⟨zo_42 (by decide +kernel), rfl⟩
theorem dX12_init_198 : Dc mX12_init 198 (.bipush 8) 2 200 := ⟨zo_16 (w := 8) (by decide +kernel), rfl⟩
theorem dX12_init_200 : Dc mX12_init 200 (.newarray .int) 2 202 := ⟨by decide +kernel, rfl⟩
theorem dX12_init_202 : Dc mX12_init 202 (.putfield 46) 3 205 := ⟨zo_181 (w := 0) (x := 46) (by decide +kernel), rfl⟩
theorem dX12_init_205 : Dc mX12_init 205 (.aload_n 0) 1 206 := ⟨zo_42 (by decide +kernel), rfl⟩
theorem dX12_init_206 : Dc mX12_init 206 (.bipush 8) 2 208 := ⟨zo_16 (w := 8) (by decide +kernel), rfl⟩
theorem dX12_init_208 : Dc mX12_init 208 (.newarray .int) 2 210 := ⟨by decide +kernel, rfl⟩
theorem dX12_init_210 : Dc mX12_init 210 (.putfield 49) 3 213 := ⟨zo_181 (w := 0) (x := 49) (by decide +kernel), rfl⟩
theorem dX12_init_213 : Dc mX12_init 213 (.aload_n 0) 1 214 := ⟨zo_42 (by decide +kernel), rfl⟩
theorem dX12_init_214 : Dc mX12_init 214 (.bipush 8) 2 216 := ⟨zo_16 (w := 8) (by decide +kernel), rfl⟩
theorem dX12_init_216 : Dc mX12_init 216 (.newarray .int) 2 218 := ⟨by decide +kernel, rfl⟩
theorem dX12_init_218 : Dc mX12_init 218 (.putfield 52) 3 221 := ⟨zo_181 (w := 0) (x := 52) (by decide +kernel), rfl⟩
theorem dX12_init_221 : Dc mX12_init 221 (.aload_n 0) 1 222 := ⟨zo_42 (by decide +kernel), rfl⟩
theorem dX12_init_222 : Dc mX12_init 222 (.bipush 6) 2 224 := ⟨zo_16 (w := 6) (by decide +kernel), rfl⟩
theorem dX12_init_224 : Dc mX12_init 224 (.newarray .int) 2 226 := ⟨by decide +kernel, rfl⟩
theorem dX12_init_226 : Dc mX12_init 226 (.putfield 55) 3 229 := ⟨zo_181 (w := 0) (x := 55) (by decide +kernel), rfl⟩
theorem dX12_init_229 : Dc mX12_init 229 (.aload_n 0) 1 230 := ⟨zo_42 (by decide +kernel), rfl⟩
theorem dX12_init_230 : Dc mX12_init 230 (.bipush 6) 2 232 := ⟨zo_16 (w := 6) (by decide +kernel), rfl⟩
theorem dX12_init_232 : Dc mX12_init 232 (.newarray .int) 2 234 := ⟨by decide +kernel, rfl⟩
theorem dX12_init_234 : Dc mX12_init 234 (.putfield 58) 3 237 := ⟨zo_181 (w := 0) (x := 58) (by decide +kernel), rfl⟩
theorem dX12_init_237 : Dc mX12_init 237 (.aload_n 0) 1 238 := ⟨zo_42 (by decide +kernel), rfl⟩
theorem dX12_init_238 : Dc mX12_init 238 (.bipush 6) 2 240 := ⟨zo_16 (w := 6) (by decide +kernel), rfl⟩
theorem dX12_init_240 : Dc mX12_init 240 (.newarray .int) 2 242 := ⟨by decide +kernel, rfl⟩
theorem dX12_init_242 : Dc mX12_init 242 (.putfield 61) 3 245 := ⟨zo_181 (w := 0) (x := 61) (by decide +kernel), rfl⟩
theorem dX12_init_245 : Dc mX12_init 245 (.aload_n 0) 1 246 := ⟨zo_42 (by decide +kernel), rfl⟩
theorem dX12_init_246 : Dc mX12_init 246 (.bipush 6) 2 248 := ⟨zo_16 (w := 6) (by decide +kernel), rfl⟩
theorem dX12_init_248 : Dc mX12_init 248 (.newarray .int) 2 250 := ⟨by decide +kernel, rfl⟩
theorem dX12_init_250 : Dc mX12_init 250 (.putfield 64) 3 253 := ⟨zo_181 (w := 0) (x := 64) (by decide +kernel), rfl⟩
theorem dX12_init_253 : Dc mX12_init 253 (.aload_n 0) 1 254 := ⟨zo_42 (by decide +kernel), rfl⟩
theorem dX12_init_254 : Dc mX12_init 254 (.sipush 128) 3 257 := ⟨zo_17 (w := 0) (x := 128) (by decide +kernel), rfl⟩
theorem dX12_init_257 : Dc mX12_init 257 (.newarray .int) 2 259 := ⟨by decide +kernel, rfl⟩
theorem dX12_init_259 : Dc mX12_init 259 (.putfield 67) 3 262 := ⟨zo_181 (w := 0) (x := 67) (by decide +kernel), rfl⟩
theorem dX12_init_262 : Dc mX12_init 262 (.aload_n 0) 1 263 := ⟨zo_42 (by decide +kernel), rfl⟩
theorem dX12_init_263 : Dc mX12_init 263 (.sipush 128) 3 266 := ⟨zo_17 (w := 0) (x := 128) (by decide +kernel), rfl⟩
theorem dX12_init_266 : Dc mX12_init 266 (.newarray .int) 2 268 := ⟨by decide +kernel, rfl⟩
theorem dX12_init_268 : Dc mX12_init 268 (.putfield 70) 3 271 := ⟨zo_181 (w := 0) (x := 70) (by decide +kernel), rfl⟩
theorem dX12_init_271 : Dc mX12_init 271 (.aload_n 0) 1 272 := ⟨zo_42 (by decide +kernel), rfl⟩
theorem dX12_init_272 : Dc mX12_init 272 (.iconst (-1)) 1 273 := ⟨zo_2 (by decide +kernel), rfl⟩
theorem dX12_init_273 : Dc mX12_init 273 (.putfield 73) 3 276 := ⟨zo_181 (w := 0) (x := 73) (by decide +kernel), rfl⟩
theorem dX12_init_276 : Dc mX12_init 276 (.aload_n 0) 1 277 := ⟨zo_42 (by decide +kernel), rfl⟩
theorem dX12_init_277 : Dc mX12_init 277 (.bipush 7) 2 279 := ⟨zo_16 (w := 7) (by decide +kernel), rfl⟩
theorem dX12_init_279 : Dc mX12_init 279 (.newarray .long) 2 281 := ⟨by decide +kernel, rfl⟩
theorem dX12_init_281 : Dc mX12_init 281 (.putfield 77) 3 284 := ⟨zo_181 (w := 0) (x := 77) (by decide +kernel), rfl⟩
theorem dX12_init_284 : Dc mX12_init 284 (.aload_n 0) 1 285 := ⟨zo_42 (by decide +kernel), rfl⟩
theorem dX12_init_285 : Dc mX12_init 285 (.bipush 64) 2 287 := ⟨zo_16 (w := 64) (by decide +kernel), rfl⟩
theorem dX12_init_287 : Dc mX12_init 287 (.newarray .long) 2 289 := ⟨by decide +kernel, rfl⟩
theorem dX12_init_289 : Dc mX12_init 289 (.putfield 81) 3 292 := ⟨zo_181 (w := 0) (x := 81) (by decide +kernel), rfl⟩
theorem dX12_init_292 : Dc mX12_init 292 (.aload_n 0) 1 293 := ⟨zo_42 (by decide +kernel), rfl⟩
theorem dX12_init_293 : Dc mX12_init 293 (.bipush 23) 2 295 := ⟨zo_16 (w := 23) (by decide +kernel), rfl⟩
theorem dX12_init_295 : Dc mX12_init 295 (.newarray .int) 2 297 := ⟨by decide +kernel, rfl⟩
theorem dX12_init_297 : Dc mX12_init 297 (.putfield 84) 3 300 := ⟨zo_181 (w := 0) (x := 84) (by decide +kernel), rfl⟩
theorem dX12_init_300 : Dc mX12_init 300 (.aload_n 0) 1 301 := ⟨zo_42 (by decide +kernel), rfl⟩
theorem dX12_init_301 : Dc mX12_init 301 (.bipush 23) 2 303 := ⟨zo_16 (w := 23) (by decide +kernel), rfl⟩
theorem dX12_init_303 : Dc mX12_init 303 (.newarray .int) 2 305 := ⟨by decide +kernel, rfl⟩
theorem dX12_init_305 : Dc mX12_init 305 (.putfield 87) 3 308 := ⟨zo_181 (w := 0) (x := 87) (by decide +kernel), rfl⟩
theorem dX12_init_308 : Dc mX12_init 308 (.aload_n 0) 1 309 := ⟨zo_42 (by decide +kernel), rfl⟩
theorem dX12_init_309 : Dc mX12_init 309 (.bipush 23) 2 311 := ⟨zo_16 (w := 23) (by decide +kernel), rfl⟩
theorem dX12_init_311 : Dc mX12_init 311 (.newarray .int) 2 313 := ⟨by decide +kernel, rfl⟩
theorem dX12_init_313 : Dc mX12_init 313 (.putfield 90) 3 316 := ⟨zo_181 (w := 0) (x := 90) (by decide +kernel), rfl⟩
theorem dX12_init_316 : Dc mX12_init 316 (.aload_n 0) 1 317 := ⟨zo_42 (by decide +kernel), rfl⟩
theorem dX12_init_317 : Dc mX12_init 317 (.bipush 23) 2 319 := ⟨zo_16 (w := 23) (by decide +kernel), rfl⟩
theorem dX12_init_319 : Dc mX12_init 319 (.newarray .int) 2 321 := ⟨by decide +kernel, rfl⟩
theorem dX12_init_321 : Dc mX12_init 321 (.putfield 93) 3 324 := ⟨zo_181 (w := 0) (x := 93) (by decide +kernel), rfl⟩
theorem dX12_init_324 : Dc mX12_init 324 (.aload_n 0) 1 325 := ⟨zo_42 (by decide +kernel), rfl⟩
theorem dX12_init_325 : Dc mX12_init 325 (.bipush 23) 2 327 := ⟨zo_16 (w := 23) (by decide +kernel), rfl⟩
theorem dX12_init_327 : Dc mX12_init 327 (.newarray .int) 2 329 := ⟨by decide +kernel, rfl⟩
theorem dX12_init_329 : Dc mX12_init 329 (.putfield 96) 3 332 := ⟨zo_181 (w := 0) (x := 96) (by decide +kernel), rfl⟩
theorem dX12_init_332 : Dc mX12_init 332 (.aload_n 0) 1 333 := ⟨zo_42 (by decide +kernel), rfl⟩
theorem dX12_init_333 : Dc mX12_init 333 (.bipush 23) 2 335 := ⟨zo_16 (w := 23) (by decide +kernel), rfl⟩
theorem dX12_init_335 : Dc mX12_init 335 (.newarray .int) 2 337 := ⟨by decide +kernel, rfl⟩
theorem dX12_init_337 : Dc mX12_init 337 (.putfield 99) 3 340 := ⟨zo_181 (w := 0) (x := 99) (by decide +kernel), rfl⟩
theorem dX12_init_340 : Dc mX12_init 340 (.aload_n 0) 1 341 := ⟨zo_42 (by decide +kernel), rfl⟩
theorem dX12_init_341 : Dc mX12_init 341 (.sipush 138) 3 344 := ⟨zo_17 (w := 0) (x := 138) (by decide +kernel), rfl⟩
theorem dX12_init_344 : Dc mX12_init 344 (.newarray .int) 2 346 := ⟨by decide +kernel, rfl⟩
theorem dX12_init_346 : Dc mX12_init 346 (.putfield 102) 3 349 := ⟨zo_181 (w := 0) (x := 102) (by decide +kernel), rfl⟩
theorem dX12_init_349 : Dc mX12_init 349 (.aload_n 0) 1 350 := ⟨zo_42 (by decide +kernel), rfl⟩
theorem dX12_init_350 : Dc mX12_init 350 (.sipush 138) 3 353 := ⟨zo_17 (w := 0) (x := 138) (by decide +kernel), rfl⟩
theorem dX12_init_353 : Dc mX12_init 353 (.newarray .int) 2 355 := ⟨by decide +kernel, rfl⟩
theorem dX12_init_355 : Dc mX12_init 355 (.putfield 105) 3 358 := ⟨zo_181 (w := 0) (x := 105) (by decide +kernel), rfl⟩
theorem dX12_init_358 : Dc mX12_init 358 (.aload_n 0) 1 359 := ⟨zo_42 (by decide +kernel), rfl⟩
theorem dX12_init_359 : Dc mX12_init 359 (.sipush 184) 3 362 := ⟨zo_17 (w := 0) (x := 184) (by decide +kernel), rfl⟩
theorem dX12_init_362 : Dc mX12_init 362 (.newarray .int) 2 364 := ⟨by decide +kernel, rfl⟩
theorem dX12_init_364 : Dc mX12_init 364 (.putfield 108) 3 367 := ⟨zo_181 (w := 0) (x := 108) (by decide +kernel), rfl⟩
theorem dX12_init_367 : Dc mX12_init 367 (.aload_n 0) 1 368 := ⟨zo_42 (by decide +kernel), rfl⟩
theorem dX12_init_368 : Dc mX12_init 368 (.sipush 184) 3 371 := ⟨zo_17 (w := 0) (x := 184) (by decide +kernel), rfl⟩
theorem dX12_init_371 : Dc mX12_init 371 (.newarray .int) 2 373 := ⟨by decide +kernel, rfl⟩
theorem dX12_init_373 : Dc mX12_init 373 (.putfield 111) 3 376 := ⟨zo_181 (w := 0) (x := 111) (by decide +kernel), rfl⟩
theorem dX12_init_376 : Dc mX12_init 376 (.aload_n 0) 1 377 := ⟨zo_42 (by decide +kernel), rfl⟩
theorem dX12_init_377 : Dc mX12_init 377 (.sipush 184) 3 380 := ⟨zo_17 (w := 0) (x := 184) (by decide +kernel), rfl⟩
theorem dX12_init_380 : Dc mX12_init 380 (.newarray .int) 2 382 := ⟨by decide +kernel, rfl⟩
theorem dX12_init_382 : Dc mX12_init 382 (.putfield 114) 3 385 := ⟨zo_181 (w := 0) (x := 114) (by decide +kernel), rfl⟩
theorem dX12_init_385 : Dc mX12_init 385 (.aload_n 0) 1 386 := ⟨zo_42 (by decide +kernel), rfl⟩
theorem dX12_init_386 : Dc mX12_init 386 (.sipush 1104) 3 389 := ⟨zo_17 (w := 4) (x := 80) (by decide +kernel), rfl⟩
theorem dX12_init_389 : Dc mX12_init 389 (.newarray .int) 2 391 := ⟨by decide +kernel, rfl⟩
theorem dX12_init_391 : Dc mX12_init 391 (.putfield 117) 3 394 := ⟨zo_181 (w := 0) (x := 117) (by decide +kernel), rfl⟩
theorem dX12_init_394 : Dc mX12_init 394 (.aload_n 0) 1 395 := ⟨zo_42 (by decide +kernel), rfl⟩
theorem dX12_init_395 : Dc mX12_init 395 (.bipush 92) 2 397 := ⟨zo_16 (w := 92) (by decide +kernel), rfl⟩
theorem dX12_init_397 : Dc mX12_init 397 (.newarray .int) 2 399 := ⟨by decide +kernel, rfl⟩
theorem dX12_init_399 : Dc mX12_init 399 (.putfield 120) 3 402 := ⟨zo_181 (w := 0) (x := 120) (by decide +kernel), rfl⟩
theorem dX12_init_402 : Dc mX12_init 402 (.aload_n 0) 1 403 := ⟨zo_42 (by decide +kernel), rfl⟩
theorem dX12_init_403 : Dc mX12_init 403 (.bipush 92) 2 405 := ⟨zo_16 (w := 92) (by decide +kernel), rfl⟩
theorem dX12_init_405 : Dc mX12_init 405 (.newarray .int) 2 407 := ⟨by decide +kernel, rfl⟩
theorem dX12_init_407 : Dc mX12_init 407 (.putfield 123) 3 410 := ⟨zo_181 (w := 0) (x := 123) (by decide +kernel), rfl⟩
theorem dX12_init_410 : Dc mX12_init 410 (.aload_n 0) 1 411 := ⟨zo_42 (by decide +kernel), rfl⟩
theorem dX12_init_411 : Dc mX12_init 411 (.iconst (-1)) 1 412 := ⟨zo_2 (by decide +kernel), rfl⟩
theorem dX12_init_412 : Dc mX12_init 412 (.putfield 126) 3 415 := ⟨zo_181 (w := 0) (x := 126) (by decide +kernel), rfl⟩
theorem dX12_init_415 : Dc mX12_init 415 (.aload_n 0) 1 416 := ⟨zo_42 (by decide +kernel), rfl⟩
theorem dX12_init_416 : Dc mX12_init 416 (.iconst (-1)) 1 417 := ⟨zo_2 (by decide +kernel), rfl⟩
theorem dX12_init_417 : Dc mX12_init 417 (.putfield 129) 3 420 := ⟨zo_181 (w := 0) (x := 129) (by decide +kernel), rfl⟩
theorem dX12_init_420 : Dc mX12_init 420 (.aload_n 0) 1 421 := ⟨zo_42 (by decide +kernel), rfl⟩
theorem dX12_init_421 : Dc mX12_init 421 (.bipush 6) 2 423 := ⟨zo_16 (w := 6) (by decide +kernel), rfl⟩
theorem dX12_init_423 : Dc mX12_init 423 (.newarray .int) 2 425 := ⟨by decide +kernel, rfl⟩
theorem dX12_init_425 : Dc mX12_init 425 (.putfield 132) 3 428 := ⟨zo_181 (w := 0) (x := 132) (by decide +kernel), rfl⟩
theorem dX12_init_428 : Dc mX12_init 428 (.aload_n 0) 1 429 := ⟨zo_42 (by decide +kernel), rfl⟩
theorem dX12_init_429 : Dc mX12_init 429 (.bipush 6) 2 431 := ⟨zo_16 (w := 6) (by decide +kernel), rfl⟩
theorem dX12_init_431 : Dc mX12_init 431 (.newarray .int) 2 433 := ⟨by decide +kernel, rfl⟩
theorem dX12_init_433 : Dc mX12_init 433 (.putfield 135) 3 436 := ⟨zo_181 (w := 0) (x := 135) (by decide +kernel), rfl⟩
theorem dX12_init_436 : Dc mX12_init 436 (.aload_n 0) 1 437 := ⟨zo_42 (by decide +kernel), rfl⟩
theorem dX12_init_437 : Dc mX12_init 437 (.iconst 4) 1 438 := ⟨zo_7 (by decide +kernel), rfl⟩
theorem dX12_init_438 : Dc mX12_init 438 (.newarray .int) 2 440 := ⟨by decide +kernel, rfl⟩
theorem dX12_init_440 : Dc mX12_init 440 (.putfield 138) 3 443 := ⟨zo_181 (w := 0) (x := 138) (by decide +kernel), rfl⟩
theorem dX12_init_443 : Dc mX12_init 443 (.aload_n 0) 1 444 := ⟨zo_42 (by decide +kernel), rfl⟩
theorem dX12_init_444 : Dc mX12_init 444 (.iconst 4) 1 445 := ⟨zo_7 (by decide +kernel), rfl⟩
theorem dX12_init_445 : Dc mX12_init 445 (.newarray .int) 2 447 := ⟨by decide +kernel, rfl⟩
theorem dX12_init_447 : Dc mX12_init 447 (.putfield 141) 3 450 := ⟨zo_181 (w := 0) (x := 141) (by decide +kernel), rfl⟩
theorem dX12_init_450 : Dc mX12_init 450 (.aload_n 0) 1 451 := ⟨zo_42 (by decide +kernel), rfl⟩
theorem dX12_init_451 : Dc mX12_init 451 (.iconst 4) 1 452 := ⟨zo_7 (by decide +kernel), rfl⟩
theorem dX12_init_452 : Dc mX12_init 452 (.newarray .int) 2 454 := ⟨by decide +kernel, rfl⟩
theorem dX12_init_454 : Dc mX12_init 454 (.putfield 144) 3 457 := ⟨zo_181 (w := 0) (x := 144) (by decide +kernel), rfl⟩
theorem dX12_init_457 : Dc mX12_init 457 (.aload_n 0) 1 458 := ⟨zo_42 (by decide +kernel), rfl⟩
theorem dX12_init_458 : Dc mX12_init 458 (.iconst (-1)) 1 459 := ⟨zo_2 (by decide +kernel), rfl⟩
theorem dX12_init_459 : Dc mX12_init 459 (.putfield 147) 3 462 := ⟨zo_181 (w := 0) (x := 147) (by decide +kernel), rfl⟩
theorem dX12_init_462 : Dc mX12_init 462 (.aload_n 0) 1 463 := ⟨zo_42 (by decide +kernel), rfl⟩
theorem dX12_init_463 : Dc mX12_init 463 (.bipush 24) 2 465 := ⟨zo_16 (w := 24) (by decide +kernel), rfl⟩
theorem dX12_init_465 : Dc mX12_init 465 (.newarray .int) 2 467 := ⟨by decide +kernel, rfl⟩
theorem dX12_init_467 : Dc mX12_init 467 (.putfield 150) 3 470 := ⟨zo_181 (w := 0) (x := 150) (by decide +kernel), rfl⟩
theorem dX12_init_470 : Dc mX12_init 470 (.aload_n 0) 1 471 := ⟨zo_42 (by decide +kernel), rfl⟩
theorem dX12_init_471 : Dc mX12_init 471 (.bipush 24) 2 473 := ⟨zo_16 (w := 24) (by decide +kernel), rfl⟩
theorem dX12_init_473 : Dc mX12_init 473 (.newarray .int) 2 475 := ⟨by decide +kernel, rfl⟩
theorem dX12_init_475 : Dc mX12_init 475 (.putfield 153) 3 478 := ⟨zo_181 (w := 0) (x := 153) (by decide +kernel), rfl⟩
theorem dX12_init_478 : Dc mX12_init 478 (.aload_n 0) 1 479 := ⟨zo_42 (by decide +kernel), rfl⟩
theorem dX12_init_479 : Dc mX12_init 479 (.bipush 24) 2 481 := ⟨zo_16 (w := 24) (by decide +kernel), rfl⟩
theorem dX12_init_481 : Dc mX12_init 481 (.newarray .boolean) 2 483 := ⟨by decide +kernel, rfl⟩
theorem dX12_init_483 : Dc mX12_init 483 (.putfield 156) 3 486 := ⟨zo_181 (w := 0) (x := 156) (by decide +kernel), rfl⟩
theorem dX12_init_486 : Dc mX12_init 486 (.aload_n 0) 1 487 := ⟨zo_42 (by decide +kernel), rfl⟩
theorem dX12_init_487 : Dc mX12_init 487 (.bipush 24) 2 489 := ⟨zo_16 (w := 24) (by decide +kernel), rfl⟩
theorem dX12_init_489 : Dc mX12_init 489 (.newarray .int) 2 491 := ⟨by decide +kernel, rfl⟩
theorem dX12_init_491 : Dc mX12_init 491 (.putfield 160) 3 494 := ⟨zo_181 (w := 0) (x := 160) (by decide +kernel), rfl⟩
theorem dX12_init_494 : Dc mX12_init 494 (.aload_n 0) 1 495 := ⟨zo_42 (by decide +kernel), rfl⟩
theorem dX12_init_495 : Dc mX12_init 495 (.bipush 24) 2 497 := ⟨zo_16 (w := 24) (by decide +kernel), rfl⟩
theorem dX12_init_497 : Dc mX12_init 497 (.newarray .boolean) 2 499 := ⟨by decide +kernel, rfl⟩
theorem dX12_init_499 : Dc mX12_init 499 (.putfield 163) 3 502 := ⟨zo_181 (w := 0) (x := 163) (by decide +kernel), rfl⟩
theorem dX12_init_502 : Dc mX12_init 502 (.aload_n 0) 1 503 := ⟨zo_42 (by decide +kernel), rfl⟩
theorem dX12_init_503 : Dc mX12_init 503 (.invokevirtual 166) 3 506 := ⟨zo_182 (w := 0) (x := 166) (by decide +kernel), rfl⟩
theorem dX12_init_506 : Dc mX12_init 506 (.return_) 1 507 := ⟨zo_177 (by decide +kernel), rfl⟩
theorem dX12_feed_0 : Dc mX12_feed 0 (.aload_n 0) 1 1 := ⟨zo_42 (by decide +kernel), rfl⟩
theorem dX12_feed_1 : Dc mX12_feed 1 (.iconst 0) 1 2 := ⟨zo_3 (by decide +kernel), rfl⟩
theorem dX12_feed_2 : Dc mX12_feed 2 (.putfield 169) 3 5 := ⟨zo_181 (w := 0) (x := 169) (by decide +kernel), rfl⟩
theorem dX12_feed_5 : Dc mX12_feed 5 (.aload_n 0) 1 6 := ⟨zo_42 (by decide +kernel), rfl⟩
theorem dX12_feed_6 : Dc mX12_feed 6 (.getfield 172) 3 9 := ⟨zo_180 (w := 0) (x := 172) (by decide +kernel), rfl⟩
theorem dX12_feed_9 : Dc mX12_feed 9 (.sipush 680) 3 12 := ⟨zo_17 (w := 2) (x := 168) (by decide +kernel), rfl⟩
theorem dX12_feed_12 : Dc mX12_feed 12 (.if_icmp .le 5) 3 15 := ⟨zo_164 (w := 0) (x := 5) (by decide +kernel), rfl⟩
theorem dX12_feed_15 : Dc mX12_feed 15 (.iconst (-1)) 1 16 := ⟨zo_2 (by decide +kernel), rfl⟩
theorem dX12_feed_16 : Dc mX12_feed 16 (.ireturn) 1 17 := ⟨zo_172 (by decide +kernel), rfl⟩
theorem dX12_feed_17 : Dc mX12_feed 17 (.iconst 0) 1 18 := ⟨zo_3 (by decide +kernel), rfl⟩
theorem dX12_feed_18 : Dc mX12_feed 18 (.istore 6) 2 20 := ⟨zo_54 (by decide +kernel), rfl⟩
theorem dX12_feed_20 : Dc mX12_feed 20 (.iload 6) 2 22 := ⟨zo_21 (by decide +kernel), rfl⟩
theorem dX12_feed_22 : Dc mX12_feed 22 (.bipush 20) 2 24 := ⟨zo_16 (w := 20) (by decide +kernel), rfl⟩
theorem dX12_feed_24 : Dc mX12_feed 24 (.if_icmp .ge 86) 3 27 := ⟨zo_162 (w := 0) (x := 86) (by decide +kernel), rfl⟩
theorem dX12_feed_27 : Dc mX12_feed 27 (.iload 6) 2 29 := ⟨zo_21 (by decide +kernel), rfl⟩
theorem dX12_feed_29 : Dc mX12_feed 29 (.iconst 4) 1 30 := ⟨zo_7 (by decide +kernel), rfl⟩
theorem dX12_feed_30 : Dc mX12_feed 30 (.if_icmp .ge 7) 3 33 := ⟨zo_162 (w := 0) (x := 7) (by decide +kernel), rfl⟩
theorem dX12_feed_33 : Dc mX12_feed 33 (.iload_n 1) 1 34 := ⟨zo_27 (by decide +kernel), rfl⟩
theorem dX12_feed_34 : Dc mX12_feed 34 (.goto 39) 3 37 := ⟨zo_167 (w := 0) (x := 39) (by decide +kernel), rfl⟩
theorem dX12_feed_37 : Dc mX12_feed 37 (.iload 6) 2 39 := ⟨zo_21 (by decide +kernel), rfl⟩
theorem dX12_feed_39 : Dc mX12_feed 39 (.bipush 8) 2 41 := ⟨zo_16 (w := 8) (by decide +kernel), rfl⟩
theorem dX12_feed_41 : Dc mX12_feed 41 (.if_icmp .ge 7) 3 44 := ⟨zo_162 (w := 0) (x := 7) (by decide +kernel), rfl⟩
theorem dX12_feed_44 : Dc mX12_feed 44 (.iload_n 2) 1 45 := ⟨zo_28 (by decide +kernel), rfl⟩
theorem dX12_feed_45 : Dc mX12_feed 45 (.goto 28) 3 48 := ⟨zo_167 (w := 0) (x := 28) (by decide +kernel), rfl⟩
theorem dX12_feed_48 : Dc mX12_feed 48 (.iload 6) 2 50 := ⟨zo_21 (by decide +kernel), rfl⟩
theorem dX12_feed_50 : Dc mX12_feed 50 (.bipush 12) 2 52 := ⟨zo_16 (w := 12) (by decide +kernel), rfl⟩
theorem dX12_feed_52 : Dc mX12_feed 52 (.if_icmp .ge 7) 3 55 := ⟨zo_162 (w := 0) (x := 7) (by decide +kernel), rfl⟩
theorem dX12_feed_55 : Dc mX12_feed 55 (.iload_n 3) 1 56 := ⟨zo_29 (by decide +kernel), rfl⟩
theorem dX12_feed_56 : Dc mX12_feed 56 (.goto 17) 3 59 := ⟨zo_167 (w := 0) (x := 17) (by decide +kernel), rfl⟩
theorem dX12_feed_59 : Dc mX12_feed 59 (.iload 6) 2 61 := ⟨zo_21 (by decide +kernel), rfl⟩
theorem dX12_feed_61 : Dc mX12_feed 61 (.bipush 16) 2 63 := ⟨zo_16 (w := 16) (by decide +kernel), rfl⟩
theorem dX12_feed_63 : Dc mX12_feed 63 (.if_icmp .ge 8) 3 66 := ⟨zo_162 (w := 0) (x := 8) (by decide +kernel), rfl⟩
theorem dX12_feed_66 : Dc mX12_feed 66 (.iload 4) 2 68 := ⟨zo_21 (by decide +kernel), rfl⟩
theorem dX12_feed_68 : Dc mX12_feed 68 (.goto 5) 3 71 := ⟨zo_167 (w := 0) (x := 5) (by decide +kernel), rfl⟩
theorem dX12_feed_71 : Dc mX12_feed 71 (.iload 5) 2 73 := ⟨zo_21 (by decide +kernel), rfl⟩
theorem dX12_feed_73 : Dc mX12_feed 73 (.istore 7) 2 75 := ⟨zo_54 (by decide +kernel), rfl⟩
theorem dX12_feed_75 : Dc mX12_feed 75 (.aload_n 0) 1 76 := ⟨zo_42 (by decide +kernel), rfl⟩
theorem dX12_feed_76 : Dc mX12_feed 76 (.getfield 7) 3 79 := ⟨zo_180 (w := 0) (x := 7) (by decide +kernel), rfl⟩
theorem dX12_feed_79 : Dc mX12_feed 79 (.aload_n 0) 1 80 := ⟨zo_42 (by decide +kernel), rfl⟩
theorem dX12_feed_80 : Dc mX12_feed 80 (.getfield 172) 3 83 := ⟨zo_180 (w := 0) (x := 172) (by decide +kernel), rfl⟩
theorem dX12_feed_83 : Dc mX12_feed 83 (.iload 6) 2 85 := ⟨zo_21 (by decide +kernel), rfl⟩
theorem dX12_feed_85 : Dc mX12_feed 85 (.iadd) 1 86 := ⟨zo_96 (by decide +kernel), rfl⟩
theorem dX12_feed_86 : Dc mX12_feed 86 (.iload 7) 2 88 := ⟨zo_21 (by decide +kernel), rfl⟩
theorem dX12_feed_88 : Dc mX12_feed 88 (.bipush 24) 2 90 := ⟨zo_16 (w := 24) (by decide +kernel), rfl⟩
theorem dX12_feed_90 : Dc mX12_feed 90 (.bipush 8) 2 92 := ⟨zo_16 (w := 8) (by decide +kernel), rfl⟩
theorem dX12_feed_92 : Dc mX12_feed 92 (.iload 6) 2 94 := ⟨zo_21 (by decide +kernel), rfl⟩
theorem dX12_feed_94 : Dc mX12_feed 94 (.iconst 4) 1 95 := ⟨zo_7 (by decide +kernel), rfl⟩
theorem dX12_feed_95 : Dc mX12_feed 95 (.irem) 1 96 := ⟨zo_112 (by decide +kernel), rfl⟩
theorem dX12_feed_96 : Dc mX12_feed 96 (.imul) 1 97 := ⟨zo_104 (by decide +kernel), rfl⟩
theorem dX12_feed_97 : Dc mX12_feed 97 (.isub) 1 98 := ⟨zo_100 (by decide +kernel), rfl⟩
theorem dX12_feed_98 : Dc mX12_feed 98 (.ishr) 1 99 := ⟨zo_122 (by decide +kernel), rfl⟩
theorem dX12_feed_99 : Dc mX12_feed 99 (.sipush 255) 3 102 := ⟨zo_17 (w := 0) (x := 255) (by decide +kernel), rfl⟩
theorem dX12_feed_102 : Dc mX12_feed 102 (.iand) 1 103 := ⟨zo_126 (by decide +kernel), rfl⟩
theorem dX12_feed_103 : Dc mX12_feed 103 (.iastore) 1 104 := ⟨zo_79 (by decide +kernel), rfl⟩
theorem dX12_feed_104 : Dc mX12_feed 104 (.iinc 6 1) 3 107 := ⟨zo_iinc (x := 1) (by decide +kernel), rfl⟩
theorem dX12_feed_107 : Dc mX12_feed 107 (.goto (-87)) 3 110 := ⟨zo_167 (w := 255) (x := 169) (by decide +kernel), rfl⟩
theorem dX12_feed_110 : Dc mX12_feed 110 (.aload_n 0) 1 111 := ⟨zo_42 (by decide +kernel), rfl⟩
theorem dX12_feed_111 : Dc mX12_feed 111 (.dup) 1 112 := ⟨zo_89 (by decide +kernel), rfl⟩
theorem dX12_feed_112 : Dc mX12_feed 112 (.getfield 172) 3 115 := ⟨zo_180 (w := 0) (x := 172) (by decide +kernel), rfl⟩
theorem dX12_feed_115 : Dc mX12_feed 115 (.bipush 20) 2 117 := ⟨zo_16 (w := 20) (by decide +kernel), rfl⟩
theorem dX12_feed_117 : Dc mX12_feed 117 (.iadd) 1 118 := ⟨zo_96 (by decide +kernel), rfl⟩
theorem dX12_feed_118 : Dc mX12_feed 118 (.putfield 172) 3 121 := ⟨zo_181 (w := 0) (x := 172) (by decide +kernel), rfl⟩
theorem dX12_feed_121 : Dc mX12_feed 121 (.aload_n 0) 1 122 := ⟨zo_42 (by decide +kernel), rfl⟩
theorem dX12_feed_122 : Dc mX12_feed 122 (.getfield 172) 3 125 := ⟨zo_180 (w := 0) (x := 172) (by decide +kernel), rfl⟩
theorem dX12_feed_125 : Dc mX12_feed 125 (.ireturn) 1 126 := ⟨zo_172 (by decide +kernel), rfl⟩
theorem dX12_here_0 : Dc mX12_here 0 (.aload_n 0) 1 1 := ⟨zo_42 (by decide +kernel), rfl⟩
theorem dX12_here_1 : Dc mX12_here 1 (.getfield 175) 3 4 := ⟨zo_180 (w := 0) (x := 175) (by decide +kernel), rfl⟩
theorem dX12_here_4 : Dc mX12_here 4 (.aload_n 0) 1 5 := ⟨zo_42 (by decide +kernel), rfl⟩
theorem dX12_here_5 : Dc mX12_here 5 (.getfield 178) 3 8 := ⟨zo_180 (w := 0) (x := 178) (by decide +kernel), rfl⟩
theorem dX12_here_8 : Dc mX12_here 8 (.if_icmp .ge 15) 3 11 := ⟨zo_162 (w := 0) (x := 15) (by decide +kernel), rfl⟩
theorem dX12_here_11 : Dc mX12_here 11 (.aload_n 0) 1 12 := ⟨zo_42 (by decide +kernel), rfl⟩
theorem dX12_here_12 : Dc mX12_here 12 (.getfield 7) 3 15 := ⟨zo_180 (w := 0) (x := 7) (by decide +kernel), rfl⟩
theorem dX12_here_15 : Dc mX12_here 15 (.aload_n 0) 1 16 := ⟨zo_42 (by decide +kernel), rfl⟩
theorem dX12_here_16 : Dc mX12_here 16 (.getfield 175) 3 19 := ⟨zo_180 (w := 0) (x := 175) (by decide +kernel), rfl⟩
theorem dX12_here_19 : Dc mX12_here 19 (.iaload) 1 20 := ⟨zo_46 (by decide +kernel), rfl⟩
theorem dX12_here_20 : Dc mX12_here 20 (.goto 4) 3 23 := ⟨zo_167 (w := 0) (x := 4) (by decide +kernel), rfl⟩
theorem dX12_here_23 : Dc mX12_here 23 (.iconst (-1)) 1 24 := ⟨zo_2 (by decide +kernel), rfl⟩
theorem dX12_here_24 : Dc mX12_here 24 (.ireturn) 1 25 := ⟨zo_172 (by decide +kernel), rfl⟩
theorem dX12_isSmall_0 : Dc mX12_isSmall 0 (.iload_n 0) 1 1 := ⟨zo_26 (by decide +kernel), rfl⟩
theorem dX12_isSmall_1 : Dc mX12_isSmall 1 (.bipush 97) 2 3 := ⟨zo_16 (w := 97) (by decide +kernel), rfl⟩
theorem dX12_isSmall_3 : Dc mX12_isSmall 3 (.if_icmp .lt 13) 3 6 := ⟨zo_161 (w := 0) (x := 13) (by decide +kernel), rfl⟩
theorem dX12_isSmall_6 : Dc mX12_isSmall 6 (.iload_n 0) 1 7 := ⟨zo_26 (by decide +kernel), rfl⟩
theorem dX12_isSmall_7 : Dc mX12_isSmall 7 (.bipush 122) 2 9 := ⟨zo_16 (w := 122) (by decide +kernel), rfl⟩
theorem dX12_isSmall_9 : Dc mX12_isSmall 9 (.if_icmp .gt 7) 3 12 := ⟨zo_163 (w := 0) (x := 7) (by decide +kernel), rfl⟩
theorem dX12_isSmall_12 : Dc mX12_isSmall 12 (.iconst 1) 1 13 := ⟨zo_4 (by decide +kernel), rfl⟩
theorem dX12_isSmall_13 : Dc mX12_isSmall 13 (.goto 4) 3 16 := ⟨zo_167 (w := 0) (x := 4) (by decide +kernel), rfl⟩
theorem dX12_isSmall_16 : Dc mX12_isSmall 16 (.iconst 0) 1 17 := ⟨zo_3 (by decide +kernel), rfl⟩
theorem dX12_isSmall_17 : Dc mX12_isSmall 17 (.ireturn) 1 18 := ⟨zo_172 (by decide +kernel), rfl⟩
theorem dX12_isDigit_0 : Dc mX12_isDigit 0 (.iload_n 0) 1 1 := ⟨zo_26 (by decide +kernel), rfl⟩
theorem dX12_isDigit_1 : Dc mX12_isDigit 1 (.bipush 48) 2 3 := ⟨zo_16 (w := 48) (by decide +kernel), rfl⟩
theorem dX12_isDigit_3 : Dc mX12_isDigit 3 (.if_icmp .lt 13) 3 6 := ⟨zo_161 (w := 0) (x := 13) (by decide +kernel), rfl⟩
theorem dX12_isDigit_6 : Dc mX12_isDigit 6 (.iload_n 0) 1 7 := ⟨zo_26 (by decide +kernel), rfl⟩
theorem dX12_isDigit_7 : Dc mX12_isDigit 7 (.bipush 57) 2 9 := ⟨zo_16 (w := 57) (by decide +kernel), rfl⟩
theorem dX12_isDigit_9 : Dc mX12_isDigit 9 (.if_icmp .gt 7) 3 12 := ⟨zo_163 (w := 0) (x := 7) (by decide +kernel), rfl⟩
theorem dX12_isDigit_12 : Dc mX12_isDigit 12 (.iconst 1) 1 13 := ⟨zo_4 (by decide +kernel), rfl⟩
theorem dX12_isDigit_13 : Dc mX12_isDigit 13 (.goto 4) 3 16 := ⟨zo_167 (w := 0) (x := 4) (by decide +kernel), rfl⟩
theorem dX12_isDigit_16 : Dc mX12_isDigit 16 (.iconst 0) 1 17 := ⟨zo_3 (by decide +kernel), rfl⟩
theorem dX12_isDigit_17 : Dc mX12_isDigit 17 (.ireturn) 1 18 := ⟨zo_172 (by decide +kernel), rfl⟩
theorem dX12_token_0 : Dc mX12_token 0 (.aload_n 0) 1 1 := ⟨zo_42 (by decide +kernel), rfl⟩
theorem dX12_token_1 : Dc mX12_token 1 (.invokevirtual 181) 3 4 := ⟨zo_182 (w := 0) (x := 181) (by decide +kernel), rfl⟩
theorem dX12_token_4 : Dc mX12_token 4 (.bipush 10) 2 6 := ⟨zo_16 (w := 10) (by decide +kernel), rfl⟩
theorem dX12_token_6 : Dc mX12_token 6 (.if_icmp .eq 12) 3 9 := ⟨zo_159 (w := 0) (x := 12) (by decide +kernel), rfl⟩
theorem dX12_token_9 : Dc mX12_token 9 (.aload_n 0) 1 10 := ⟨zo_42 (by decide +kernel), rfl⟩
theorem dX12_token_10 : Dc mX12_token 10 (.invokevirtual 181) 3 13 := ⟨zo_182 (w := 0) (x := 181) (by decide +kernel), rfl⟩
theorem dX12_token_13 : Dc mX12_token 13 (.bipush 32) 2 15 := ⟨zo_16 (w := 32) (by decide +kernel), rfl⟩
theorem dX12_token_15 : Dc mX12_token 15 (.if_icmp .ne 16) 3 18 := ⟨zo_160 (w := 0) (x := 16) (by decide +kernel), rfl⟩
theorem dX12_token_18 : Dc mX12_token 18 (.aload_n 0) 1 19 := ⟨zo_42 (by decide +kernel), rfl⟩
theorem dX12_token_19 : Dc mX12_token 19 (.dup) 1 20 := ⟨zo_89 (by decide +kernel), rfl⟩
theorem dX12_token_20 : Dc mX12_token 20 (.getfield 175) 3 23 := ⟨zo_180 (w := 0) (x := 175) (by decide +kernel), rfl⟩
theorem dX12_token_23 : Dc mX12_token 23 (.iconst 1) 1 24 := ⟨zo_4 (by decide +kernel), rfl⟩
theorem dX12_token_24 : Dc mX12_token 24 (.iadd) 1 25 := ⟨zo_96 (by decide +kernel), rfl⟩
theorem dX12_token_25 : Dc mX12_token 25 (.putfield 175) 3 28 := ⟨zo_181 (w := 0) (x := 175) (by decide +kernel), rfl⟩
theorem dX12_token_28 : Dc mX12_token 28 (.goto (-28)) 3 31 := ⟨zo_167 (w := 255) (x := 228) (by decide +kernel), rfl⟩
theorem dX12_token_31 : Dc mX12_token 31 (.aload_n 0) 1 32 := ⟨zo_42 (by decide +kernel), rfl⟩
theorem dX12_token_32 : Dc mX12_token 32 (.aload_n 0) 1 33 := ⟨zo_42 (by decide +kernel), rfl⟩
theorem dX12_token_33 : Dc mX12_token 33 (.getfield 175) 3 36 := ⟨zo_180 (w := 0) (x := 175) (by decide +kernel), rfl⟩
theorem dX12_token_36 : Dc mX12_token 36 (.putfield 185) 3 39 := ⟨zo_181 (w := 0) (x := 185) (by decide +kernel), rfl⟩
theorem dX12_token_39 : Dc mX12_token 39 (.aload_n 0) 1 40 := ⟨zo_42 (by decide +kernel), rfl⟩
theorem dX12_token_40 : Dc mX12_token 40 (.invokevirtual 181) 3 43 := ⟨zo_182 (w := 0) (x := 181) (by decide +kernel), rfl⟩
theorem dX12_token_43 : Dc mX12_token 43 (.istore_n 1) 1 44 := ⟨zo_60 (by decide +kernel), rfl⟩
theorem dX12_token_44 : Dc mX12_token 44 (.iload_n 1) 1 45 := ⟨zo_27 (by decide +kernel), rfl⟩
theorem dX12_token_45 : Dc mX12_token 45 (.iconst (-1)) 1 46 := ⟨zo_2 (by decide +kernel), rfl⟩
theorem dX12_token_46 : Dc mX12_token 46 (.if_icmp .ne 11) 3 49 := ⟨zo_160 (w := 0) (x := 11) (by decide +kernel), rfl⟩
theorem dX12_token_49 : Dc mX12_token 49 (.aload_n 0) 1 50 := ⟨zo_42 (by decide +kernel), rfl⟩
theorem dX12_token_50 : Dc mX12_token 50 (.iconst 4) 1 51 := ⟨zo_7 (by decide +kernel), rfl⟩
theorem dX12_token_51 : Dc mX12_token 51 (.putfield 188) 3 54 := ⟨zo_181 (w := 0) (x := 188) (by decide +kernel), rfl⟩
theorem dX12_token_54 : Dc mX12_token 54 (.goto 171) 3 57 := ⟨zo_167 (w := 0) (x := 171) (by decide +kernel), rfl⟩
theorem dX12_token_57 : Dc mX12_token 57 (.iload_n 1) 1 58 := ⟨zo_27 (by decide +kernel), rfl⟩
theorem dX12_token_58 : Dc mX12_token 58 (.invokestatic 191) 3 61 := ⟨zo_184 (w := 0) (x := 191) (by decide +kernel), rfl⟩
theorem dX12_token_61 : Dc mX12_token 61 (.ifCond .eq 84) 3 64 := ⟨zo_153 (w := 0) (x := 84) (by decide +kernel), rfl⟩
theorem dX12_token_64 : Dc mX12_token 64 (.aload_n 0) 1 65 := ⟨zo_42 (by decide +kernel), rfl⟩
theorem dX12_token_65 : Dc mX12_token 65 (.invokevirtual 181) 3 68 := ⟨zo_182 (w := 0) (x := 181) (by decide +kernel), rfl⟩
theorem dX12_token_68 : Dc mX12_token 68 (.invokestatic 191) 3 71 := ⟨zo_184 (w := 0) (x := 191) (by decide +kernel), rfl⟩
theorem dX12_token_71 : Dc mX12_token 71 (.ifCond .eq 16) 3 74 := ⟨zo_153 (w := 0) (x := 16) (by decide +kernel), rfl⟩
theorem dX12_token_74 : Dc mX12_token 74 (.aload_n 0) 1 75 := ⟨zo_42 (by decide +kernel), rfl⟩
theorem dX12_token_75 : Dc mX12_token 75 (.dup) 1 76 := ⟨zo_89 (by decide +kernel), rfl⟩
theorem dX12_token_76 : Dc mX12_token 76 (.getfield 175) 3 79 := ⟨zo_180 (w := 0) (x := 175) (by decide +kernel), rfl⟩
theorem dX12_token_79 : Dc mX12_token 79 (.iconst 1) 1 80 := ⟨zo_4 (by decide +kernel), rfl⟩
theorem dX12_token_80 : Dc mX12_token 80 (.iadd) 1 81 := ⟨zo_96 (by decide +kernel), rfl⟩
theorem dX12_token_81 : Dc mX12_token 81 (.putfield 175) 3 84 := ⟨zo_181 (w := 0) (x := 175) (by decide +kernel), rfl⟩
theorem dX12_token_84 : Dc mX12_token 84 (.goto (-20)) 3 87 := ⟨zo_167 (w := 255) (x := 236) (by decide +kernel), rfl⟩
theorem dX12_token_87 : Dc mX12_token 87 (.aload_n 0) 1 88 := ⟨zo_42 (by decide +kernel), rfl⟩
theorem dX12_token_88 : Dc mX12_token 88 (.aload_n 0) 1 89 := ⟨zo_42 (by decide +kernel), rfl⟩
theorem dX12_token_89 : Dc mX12_token 89 (.invokevirtual 195) 3 92 := ⟨zo_182 (w := 0) (x := 195) (by decide +kernel), rfl⟩
theorem dX12_token_92 : Dc mX12_token 92 (.putfield 198) 3 95 := ⟨zo_181 (w := 0) (x := 198) (by decide +kernel), rfl⟩
theorem dX12_token_95 : Dc mX12_token 95 (.aload_n 0) 1 96 := ⟨zo_42 (by decide +kernel), rfl⟩
theorem dX12_token_96 : Dc mX12_token 96 (.aload_n 0) 1 97 := ⟨zo_42 (by decide +kernel), rfl⟩
theorem dX12_token_97 : Dc mX12_token 97 (.getfield 198) 3 100 := ⟨zo_180 (w := 0) (x := 198) (by decide +kernel), rfl⟩
theorem dX12_token_100 : Dc mX12_token 100 (.iconst (-1)) 1 101 := ⟨zo_2 (by decide +kernel), rfl⟩
theorem dX12_token_101 : Dc mX12_token 101 (.if_icmp .eq 7) 3 104 := ⟨zo_159 (w := 0) (x := 7) (by decide +kernel), rfl⟩
theorem dX12_token_104 : Dc mX12_token 104 (.iconst 0) 1 105 := ⟨zo_3 (by decide +kernel), rfl⟩
theorem dX12_token_105 : Dc mX12_token 105 (.goto 22) 3 108 := ⟨zo_167 (w := 0) (x := 22) (by decide +kernel), rfl⟩
theorem dX12_token_108 : Dc mX12_token 108 (.aload_n 0) 1 109 := ⟨zo_42 (by decide +kernel), rfl⟩
theorem dX12_token_109 : Dc mX12_token 109 (.getfield 175) 3 112 := ⟨zo_180 (w := 0) (x := 175) (by decide +kernel), rfl⟩
theorem dX12_token_112 : Dc mX12_token 112 (.aload_n 0) 1 113 := ⟨zo_42 (by decide +kernel), rfl⟩
theorem dX12_token_113 : Dc mX12_token 113 (.getfield 185) 3 116 := ⟨zo_180 (w := 0) (x := 185) (by decide +kernel), rfl⟩
theorem dX12_token_116 : Dc mX12_token 116 (.isub) 1 117 := ⟨zo_100 (by decide +kernel), rfl⟩
theorem dX12_token_117 : Dc mX12_token 117 (.bipush 6) 2 119 := ⟨zo_16 (w := 6) (by decide +kernel), rfl⟩
theorem dX12_token_119 : Dc mX12_token 119 (.if_icmp .le 7) 3 122 := ⟨zo_164 (w := 0) (x := 7) (by decide +kernel), rfl⟩
theorem dX12_token_122 : Dc mX12_token 122 (.iconst 5) 1 123 := ⟨zo_8 (by decide +kernel), rfl⟩
theorem dX12_token_123 : Dc mX12_token 123 (.goto 4) 3 126 := ⟨zo_167 (w := 0) (x := 4) (by decide +kernel), rfl⟩
theorem dX12_token_126 : Dc mX12_token 126 (.iconst 1) 1 127 := ⟨zo_4 (by decide +kernel), rfl⟩
theorem dX12_token_127 : Dc mX12_token 127 (.putfield 188) 3 130 := ⟨zo_181 (w := 0) (x := 188) (by decide +kernel), rfl⟩
theorem dX12_token_130 : Dc mX12_token 130 (.aload_n 0) 1 131 := ⟨zo_42 (by decide +kernel), rfl⟩
theorem dX12_token_131 : Dc mX12_token 131 (.getfield 188) 3 134 := ⟨zo_180 (w := 0) (x := 188) (by decide +kernel), rfl⟩
theorem dX12_token_134 : Dc mX12_token 134 (.iconst 1) 1 135 := ⟨zo_4 (by decide +kernel), rfl⟩
theorem dX12_token_135 : Dc mX12_token 135 (.if_icmp .ne 90) 3 138 := ⟨zo_160 (w := 0) (x := 90) (by decide +kernel), rfl⟩
theorem dX12_token_138 : Dc mX12_token 138 (.aload_n 0) 1 139 := ⟨zo_42 (by decide +kernel), rfl⟩
theorem dX12_token_139 : Dc mX12_token 139 (.invokevirtual 201) 3 142 := ⟨zo_182 (w := 0) (x := 201) (by decide +kernel), rfl⟩
theorem dX12_token_142 : Dc mX12_token 142 (.goto 83) 3 145 := ⟨zo_167 (w := 0) (x := 83) (by decide +kernel), rfl⟩
theorem dX12_token_145 : Dc mX12_token 145 (.iload_n 1) 1 146 := ⟨zo_27 (by decide +kernel), rfl⟩
theorem dX12_token_146 : Dc mX12_token 146 (.invokestatic 204) 3 149 := ⟨zo_184 (w := 0) (x := 204) (by decide +kernel), rfl⟩
theorem dX12_token_149 : Dc mX12_token 149 (.ifCond .eq 71) 3 152 := ⟨zo_153 (w := 0) (x := 71) (by decide +kernel), rfl⟩
theorem dX12_token_152 : Dc mX12_token 152 (.aload_n 0) 1 153 := ⟨zo_42 (by decide +kernel), rfl⟩
theorem dX12_token_153 : Dc mX12_token 153 (.iconst 2) 1 154 := ⟨zo_5 (by decide +kernel), rfl⟩
theorem dX12_token_154 : Dc mX12_token 154 (.putfield 188) 3 157 := ⟨zo_181 (w := 0) (x := 188) (by decide +kernel), rfl⟩
theorem dX12_token_157 : Dc mX12_token 157 (.aload_n 0) 1 158 := ⟨zo_42 (by decide +kernel), rfl⟩
theorem dX12_token_158 : Dc mX12_token 158 (.iconst 0) 1 159 := ⟨zo_3 (by decide +kernel), rfl⟩
theorem dX12_token_159 : Dc mX12_token 159 (.putfield 198) 3 162 := ⟨zo_181 (w := 0) (x := 198) (by decide +kernel), rfl⟩
theorem dX12_token_162 : Dc mX12_token 162 (.aload_n 0) 1 163 := ⟨zo_42 (by decide +kernel), rfl⟩
theorem dX12_token_163 : Dc mX12_token 163 (.invokevirtual 181) 3 166 := ⟨zo_182 (w := 0) (x := 181) (by decide +kernel), rfl⟩
theorem dX12_token_166 : Dc mX12_token 166 (.invokestatic 204) 3 169 := ⟨zo_184 (w := 0) (x := 204) (by decide +kernel), rfl⟩
theorem dX12_token_169 : Dc mX12_token 169 (.ifCond .eq 56) 3 172 := ⟨zo_153 (w := 0) (x := 56) (by decide +kernel), rfl⟩
theorem dX12_token_172 : Dc mX12_token 172 (.aload_n 0) 1 173 := ⟨zo_42 (by decide +kernel), rfl⟩
theorem dX12_token_173 : Dc mX12_token 173 (.aload_n 0) 1 174 := ⟨zo_42 (by decide +kernel), rfl⟩
theorem dX12_token_174 : Dc mX12_token 174 (.getfield 198) 3 177 := ⟨zo_180 (w := 0) (x := 198) (by decide +kernel), rfl⟩
theorem dX12_token_177 : Dc mX12_token 177 (.ldc 207) 2 179 := ⟨zo_18 (by decide +kernel), rfl⟩
theorem dX12_token_179 : Dc mX12_token 179 (.if_icmp .le 10) 3 182 := ⟨zo_164 (w := 0) (x := 10) (by decide +kernel), rfl⟩
theorem dX12_token_182 : Dc mX12_token 182 (.aload_n 0) 1 183 := ⟨zo_42 (by decide +kernel), rfl⟩
theorem dX12_token_183 : Dc mX12_token 183 (.getfield 198) 3 186 := ⟨zo_180 (w := 0) (x := 198) (by decide +kernel), rfl⟩
theorem dX12_token_186 : Dc mX12_token 186 (.goto 18) 3 189 := ⟨zo_167 (w := 0) (x := 18) (by decide +kernel), rfl⟩
theorem dX12_token_189 : Dc mX12_token 189 (.bipush 10) 2 191 := ⟨zo_16 (w := 10) (by decide +kernel), rfl⟩
theorem dX12_token_191 : Dc mX12_token 191 (.aload_n 0) 1 192 := ⟨zo_42 (by decide +kernel), rfl⟩
theorem dX12_token_192 : Dc mX12_token 192 (.getfield 198) 3 195 := ⟨zo_180 (w := 0) (x := 198) (by decide +kernel), rfl⟩
theorem dX12_token_195 : Dc mX12_token 195 (.imul) 1 196 := ⟨zo_104 (by decide +kernel), rfl⟩
theorem dX12_token_196 : Dc mX12_token 196 (.aload_n 0) 1 197 := ⟨zo_42 (by decide +kernel), rfl⟩
theorem dX12_token_197 : Dc mX12_token 197 (.invokevirtual 181) 3 200 := ⟨zo_182 (w := 0) (x := 181) (by decide +kernel), rfl⟩
theorem dX12_token_200 : Dc mX12_token 200 (.iadd) 1 201 := ⟨zo_96 (by decide +kernel), rfl⟩
theorem dX12_token_201 : Dc mX12_token 201 (.bipush 48) 2 203 := ⟨zo_16 (w := 48) (by decide +kernel), rfl⟩
theorem dX12_token_203 : Dc mX12_token 203 (.isub) 1 204 := ⟨zo_100 (by decide +kernel), rfl⟩
theorem dX12_token_204 : Dc mX12_token 204 (.putfield 198) 3 207 := ⟨zo_181 (w := 0) (x := 198) (by decide +kernel), rfl⟩
theorem dX12_token_207 : Dc mX12_token 207 (.aload_n 0) 1 208 := ⟨zo_42 (by decide +kernel), rfl⟩
theorem dX12_token_208 : Dc mX12_token 208 (.dup) 1 209 := ⟨zo_89 (by decide +kernel), rfl⟩
theorem dX12_token_209 : Dc mX12_token 209 (.getfield 175) 3 212 := ⟨zo_180 (w := 0) (x := 175) (by decide +kernel), rfl⟩
theorem dX12_token_212 : Dc mX12_token 212 (.iconst 1) 1 213 := ⟨zo_4 (by decide +kernel), rfl⟩
theorem dX12_token_213 : Dc mX12_token 213 (.iadd) 1 214 := ⟨zo_96 (by decide +kernel), rfl⟩
theorem dX12_token_214 : Dc mX12_token 214 (.putfield 175) 3 217 := ⟨zo_181 (w := 0) (x := 175) (by decide +kernel), rfl⟩
theorem dX12_token_217 : Dc mX12_token 217 (.goto (-55)) 3 220 := ⟨zo_167 (w := 255) (x := 201) (by decide +kernel), rfl⟩
theorem dX12_token_220 : Dc mX12_token 220 (.aload_n 0) 1 221 := ⟨zo_42 (by decide +kernel), rfl⟩
theorem dX12_token_221 : Dc mX12_token 221 (.iload_n 1) 1 222 := ⟨zo_27 (by decide +kernel), rfl⟩
theorem dX12_token_222 : Dc mX12_token 222 (.invokevirtual 208) 3 225 := ⟨zo_182 (w := 0) (x := 208) (by decide +kernel), rfl⟩
theorem dX12_token_225 : Dc mX12_token 225 (.return_) 1 226 := ⟨zo_177 (by decide +kernel), rfl⟩
theorem dX12_sign_0 : Dc mX12_sign 0 (.aload_n 0) 1 1 := ⟨zo_42 (by decide +kernel), rfl⟩
theorem dX12_sign_1 : Dc mX12_sign 1 (.dup) 1 2 := ⟨zo_89 (by decide +kernel), rfl⟩
theorem dX12_sign_2 : Dc mX12_sign 2 (.getfield 175) 3 5 := ⟨zo_180 (w := 0) (x := 175) (by decide +kernel), rfl⟩
theorem dX12_sign_5 : Dc mX12_sign 5 (.iconst 1) 1 6 := ⟨zo_4 (by decide +kernel), rfl⟩
theorem dX12_sign_6 : Dc mX12_sign 6 (.iadd) 1 7 := ⟨zo_96 (by decide +kernel), rfl⟩
theorem dX12_sign_7 : Dc mX12_sign 7 (.putfield 175) 3 10 := ⟨zo_181 (w := 0) (x := 175) (by decide +kernel), rfl⟩
theorem dX12_sign_10 : Dc mX12_sign 10 (.aload_n 0) 1 11 := ⟨zo_42 (by decide +kernel), rfl⟩
theorem dX12_sign_11 : Dc mX12_sign 11 (.iload_n 1) 1 12 := ⟨zo_27 (by decide +kernel), rfl⟩
theorem dX12_sign_12 : Dc mX12_sign 12 (.bipush 59) 2 14 := ⟨zo_16 (w := 59) (by decide +kernel), rfl⟩
theorem dX12_sign_14 : Dc mX12_sign 14 (.if_icmp .eq 57) 3 17 := ⟨zo_159 (w := 0) (x := 57) (by decide +kernel), rfl⟩
theorem dX12_sign_17 : Dc mX12_sign 17 (.iload_n 1) 1 18 := ⟨zo_27 (by decide +kernel), rfl⟩
theorem dX12_sign_18 : Dc mX12_sign 18 (.bipush 40) 2 20 := ⟨zo_16 (w := 40) (by decide +kernel), rfl⟩
theorem dX12_sign_20 : Dc mX12_sign 20 (.if_icmp .eq 51) 3 23 := ⟨zo_159 (w := 0) (x := 51) (by decide +kernel), rfl⟩
theorem dX12_sign_23 : Dc mX12_sign 23 (.iload_n 1) 1 24 := ⟨zo_27 (by decide +kernel), rfl⟩
theorem dX12_sign_24 : Dc mX12_sign 24 (.bipush 41) 2 26 := ⟨zo_16 (w := 41) (by decide +kernel), rfl⟩
theorem dX12_sign_26 : Dc mX12_sign 26 (.if_icmp .eq 45) 3 29 := ⟨zo_159 (w := 0) (x := 45) (by decide +kernel), rfl⟩
theorem dX12_sign_29 : Dc mX12_sign 29 (.iload_n 1) 1 30 := ⟨zo_27 (by decide +kernel), rfl⟩
theorem dX12_sign_30 : Dc mX12_sign 30 (.bipush 43) 2 32 := ⟨zo_16 (w := 43) (by decide +kernel), rfl⟩
theorem dX12_sign_32 : Dc mX12_sign 32 (.if_icmp .eq 39) 3 35 := ⟨zo_159 (w := 0) (x := 39) (by decide +kernel), rfl⟩
theorem dX12_sign_35 : Dc mX12_sign 35 (.iload_n 1) 1 36 := ⟨zo_27 (by decide +kernel), rfl⟩
theorem dX12_sign_36 : Dc mX12_sign 36 (.bipush 45) 2 38 := ⟨zo_16 (w := 45) (by decide +kernel), rfl⟩
theorem dX12_sign_38 : Dc mX12_sign 38 (.if_icmp .eq 33) 3 41 := ⟨zo_159 (w := 0) (x := 33) (by decide +kernel), rfl⟩
theorem dX12_sign_41 : Dc mX12_sign 41 (.iload_n 1) 1 42 := ⟨zo_27 (by decide +kernel), rfl⟩
theorem dX12_sign_42 : Dc mX12_sign 42 (.bipush 42) 2 44 := ⟨zo_16 (w := 42) (by decide +kernel), rfl⟩
theorem dX12_sign_44 : Dc mX12_sign 44 (.if_icmp .eq 27) 3 47 := ⟨zo_159 (w := 0) (x := 27) (by decide +kernel), rfl⟩
theorem dX12_sign_47 : Dc mX12_sign 47 (.iload_n 1) 1 48 := ⟨zo_27 (by decide +kernel), rfl⟩
theorem dX12_sign_48 : Dc mX12_sign 48 (.bipush 47) 2 50 := ⟨zo_16 (w := 47) (by decide +kernel), rfl⟩
theorem dX12_sign_50 : Dc mX12_sign 50 (.if_icmp .eq 21) 3 53 := ⟨zo_159 (w := 0) (x := 21) (by decide +kernel), rfl⟩
theorem dX12_sign_53 : Dc mX12_sign 53 (.iload_n 1) 1 54 := ⟨zo_27 (by decide +kernel), rfl⟩
theorem dX12_sign_54 : Dc mX12_sign 54 (.bipush 60) 2 56 := ⟨zo_16 (w := 60) (by decide +kernel), rfl⟩
theorem dX12_sign_56 : Dc mX12_sign 56 (.if_icmp .eq 15) 3 59 := ⟨zo_159 (w := 0) (x := 15) (by decide +kernel), rfl⟩
theorem dX12_sign_59 : Dc mX12_sign 59 (.iload_n 1) 1 60 := ⟨zo_27 (by decide +kernel), rfl⟩
theorem dX12_sign_60 : Dc mX12_sign 60 (.bipush 61) 2 62 := ⟨zo_16 (w := 61) (by decide +kernel), rfl⟩
theorem dX12_sign_62 : Dc mX12_sign 62 (.if_icmp .eq 9) 3 65 := ⟨zo_159 (w := 0) (x := 9) (by decide +kernel), rfl⟩
theorem dX12_sign_65 : Dc mX12_sign 65 (.iload_n 1) 1 66 := ⟨zo_27 (by decide +kernel), rfl⟩
theorem dX12_sign_66 : Dc mX12_sign 66 (.bipush 62) 2 68 := ⟨zo_16 (w := 62) (by decide +kernel), rfl⟩
theorem dX12_sign_68 : Dc mX12_sign 68 (.if_icmp .ne 7) 3 71 := ⟨zo_160 (w := 0) (x := 7) (by decide +kernel), rfl⟩
theorem dX12_sign_71 : Dc mX12_sign 71 (.iconst 3) 1 72 := ⟨zo_6 (by decide +kernel), rfl⟩
theorem dX12_sign_72 : Dc mX12_sign 72 (.goto 4) 3 75 := ⟨zo_167 (w := 0) (x := 4) (by decide +kernel), rfl⟩
theorem dX12_sign_75 : Dc mX12_sign 75 (.iconst 5) 1 76 := ⟨zo_8 (by decide +kernel), rfl⟩
theorem dX12_sign_76 : Dc mX12_sign 76 (.putfield 188) 3 79 := ⟨zo_181 (w := 0) (x := 188) (by decide +kernel), rfl⟩
theorem dX12_sign_79 : Dc mX12_sign 79 (.aload_n 0) 1 80 := ⟨zo_42 (by decide +kernel), rfl⟩
theorem dX12_sign_80 : Dc mX12_sign 80 (.iload_n 1) 1 81 := ⟨zo_27 (by decide +kernel), rfl⟩
theorem dX12_sign_81 : Dc mX12_sign 81 (.putfield 198) 3 84 := ⟨zo_181 (w := 0) (x := 198) (by decide +kernel), rfl⟩
theorem dX12_sign_84 : Dc mX12_sign 84 (.iload_n 1) 1 85 := ⟨zo_27 (by decide +kernel), rfl⟩
theorem dX12_sign_85 : Dc mX12_sign 85 (.bipush 60) 2 87 := ⟨zo_16 (w := 60) (by decide +kernel), rfl⟩
theorem dX12_sign_87 : Dc mX12_sign 87 (.if_icmp .ne 19) 3 90 := ⟨zo_160 (w := 0) (x := 19) (by decide +kernel), rfl⟩
theorem dX12_sign_90 : Dc mX12_sign 90 (.aload_n 0) 1 91 := ⟨zo_42 (by decide +kernel), rfl⟩
theorem dX12_sign_91 : Dc mX12_sign 91 (.invokevirtual 181) 3 94 := ⟨zo_182 (w := 0) (x := 181) (by decide +kernel), rfl⟩
theorem dX12_sign_94 : Dc mX12_sign 94 (.bipush 61) 2 96 := ⟨zo_16 (w := 61) (by decide +kernel), rfl⟩
theorem dX12_sign_96 : Dc mX12_sign 96 (.if_icmp .ne 10) 3 99 := ⟨zo_160 (w := 0) (x := 10) (by decide +kernel), rfl⟩
theorem dX12_sign_99 : Dc mX12_sign 99 (.aload_n 0) 1 100 := ⟨zo_42 (by decide +kernel), rfl⟩
theorem dX12_sign_100 : Dc mX12_sign 100 (.sipush 256) 3 103 := ⟨zo_17 (w := 1) (x := 0) (by decide +kernel), rfl⟩
theorem dX12_sign_103 : Dc mX12_sign 103 (.putfield 198) 3 106 := ⟨zo_181 (w := 0) (x := 198) (by decide +kernel), rfl⟩
theorem dX12_sign_106 : Dc mX12_sign 106 (.iload_n 1) 1 107 := ⟨zo_27 (by decide +kernel), rfl⟩
theorem dX12_sign_107 : Dc mX12_sign 107 (.bipush 60) 2 109 := ⟨zo_16 (w := 60) (by decide +kernel), rfl⟩
theorem dX12_sign_109 : Dc mX12_sign 109 (.if_icmp .ne 19) 3 112 := ⟨zo_160 (w := 0) (x := 19) (by decide +kernel), rfl⟩
theorem dX12_sign_112 : Dc mX12_sign 112 (.aload_n 0) 1 113 := ⟨zo_42 (by decide +kernel), rfl⟩
theorem dX12_sign_113 : Dc mX12_sign 113 (.invokevirtual 181) 3 116 := ⟨zo_182 (w := 0) (x := 181) (by decide +kernel), rfl⟩
theorem dX12_sign_116 : Dc mX12_sign 116 (.bipush 62) 2 118 := ⟨zo_16 (w := 62) (by decide +kernel), rfl⟩
theorem dX12_sign_118 : Dc mX12_sign 118 (.if_icmp .ne 10) 3 121 := ⟨zo_160 (w := 0) (x := 10) (by decide +kernel), rfl⟩
theorem dX12_sign_121 : Dc mX12_sign 121 (.aload_n 0) 1 122 := ⟨zo_42 (by decide +kernel), rfl⟩
theorem dX12_sign_122 : Dc mX12_sign 122 (.sipush 257) 3 125 := ⟨zo_17 (w := 1) (x := 1) (by decide +kernel), rfl⟩
theorem dX12_sign_125 : Dc mX12_sign 125 (.putfield 198) 3 128 := ⟨zo_181 (w := 0) (x := 198) (by decide +kernel), rfl⟩
theorem dX12_sign_128 : Dc mX12_sign 128 (.iload_n 1) 1 129 := ⟨zo_27 (by decide +kernel), rfl⟩
theorem dX12_sign_129 : Dc mX12_sign 129 (.bipush 62) 2 131 := ⟨zo_16 (w := 62) (by decide +kernel), rfl⟩
theorem dX12_sign_131 : Dc mX12_sign 131 (.if_icmp .ne 19) 3 134 := ⟨zo_160 (w := 0) (x := 19) (by decide +kernel), rfl⟩
theorem dX12_sign_134 : Dc mX12_sign 134 (.aload_n 0) 1 135 := ⟨zo_42 (by decide +kernel), rfl⟩
theorem dX12_sign_135 : Dc mX12_sign 135 (.invokevirtual 181) 3 138 := ⟨zo_182 (w := 0) (x := 181) (by decide +kernel), rfl⟩
theorem dX12_sign_138 : Dc mX12_sign 138 (.bipush 61) 2 140 := ⟨zo_16 (w := 61) (by decide +kernel), rfl⟩
theorem dX12_sign_140 : Dc mX12_sign 140 (.if_icmp .ne 10) 3 143 := ⟨zo_160 (w := 0) (x := 10) (by decide +kernel), rfl⟩
theorem dX12_sign_143 : Dc mX12_sign 143 (.aload_n 0) 1 144 := ⟨zo_42 (by decide +kernel), rfl⟩
theorem dX12_sign_144 : Dc mX12_sign 144 (.sipush 258) 3 147 := ⟨zo_17 (w := 1) (x := 2) (by decide +kernel), rfl⟩
theorem dX12_sign_147 : Dc mX12_sign 147 (.putfield 198) 3 150 := ⟨zo_181 (w := 0) (x := 198) (by decide +kernel), rfl⟩
theorem dX12_sign_150 : Dc mX12_sign 150 (.aload_n 0) 1 151 := ⟨zo_42 (by decide +kernel), rfl⟩
theorem dX12_sign_151 : Dc mX12_sign 151 (.getfield 198) 3 154 := ⟨zo_180 (w := 0) (x := 198) (by decide +kernel), rfl⟩
theorem dX12_sign_154 : Dc mX12_sign 154 (.sipush 256) 3 157 := ⟨zo_17 (w := 1) (x := 0) (by decide +kernel), rfl⟩
theorem dX12_sign_157 : Dc mX12_sign 157 (.if_icmp .lt 13) 3 160 := ⟨zo_161 (w := 0) (x := 13) (by decide +kernel), rfl⟩
theorem dX12_sign_160 : Dc mX12_sign 160 (.aload_n 0) 1 161 := ⟨zo_42 (by decide +kernel), rfl⟩
theorem dX12_sign_161 : Dc mX12_sign 161 (.dup) 1 162 := ⟨zo_89 (by decide +kernel), rfl⟩
theorem dX12_sign_162 : Dc mX12_sign 162 (.getfield 175) 3 165 := ⟨zo_180 (w := 0) (x := 175) (by decide +kernel), rfl⟩
theorem dX12_sign_165 : Dc mX12_sign 165 (.iconst 1) 1 166 := ⟨zo_4 (by decide +kernel), rfl⟩
theorem dX12_sign_166 : Dc mX12_sign 166 (.iadd) 1 167 := ⟨zo_96 (by decide +kernel), rfl⟩
theorem dX12_sign_167 : Dc mX12_sign 167 (.putfield 175) 3 170 := ⟨zo_181 (w := 0) (x := 175) (by decide +kernel), rfl⟩
theorem dX12_sign_170 : Dc mX12_sign 170 (.return_) 1 171 := ⟨zo_177 (by decide +kernel), rfl⟩
theorem dX12_word_0 : Dc mX12_word 0 (.iconst 0) 1 1 := ⟨zo_3 (by decide +kernel), rfl⟩
theorem dX12_word_1 : Dc mX12_word 1 (.istore_n 1) 1 2 := ⟨zo_60 (by decide +kernel), rfl⟩
theorem dX12_word_2 : Dc mX12_word 2 (.iconst 0) 1 3 := ⟨zo_3 (by decide +kernel), rfl⟩
theorem dX12_word_3 : Dc mX12_word 3 (.istore_n 2) 1 4 := ⟨zo_61 (by decide +kernel), rfl⟩
theorem dX12_word_4 : Dc mX12_word 4 (.iload_n 2) 1 5 := ⟨zo_28 (by decide +kernel), rfl⟩
theorem dX12_word_5 : Dc mX12_word 5 (.ldc 212) 2 7 := ⟨zo_18 (by decide +kernel), rfl⟩
theorem dX12_word_7 : Dc mX12_word 7 (.invokevirtual 214) 3 10 := ⟨zo_182 (w := 0) (x := 214) (by decide +kernel), rfl⟩
theorem dX12_word_10 : Dc mX12_word 10 (.if_icmp .ge 113) 3 13 := ⟨zo_162 (w := 0) (x := 113) (by decide +kernel), rfl⟩
theorem dX12_word_13 : Dc mX12_word 13 (.iconst 0) 1 14 := ⟨zo_3 (by decide +kernel), rfl⟩
theorem dX12_word_14 : Dc mX12_word 14 (.istore_n 3) 1 15 := ⟨zo_62 (by decide +kernel), rfl⟩
theorem dX12_word_15 : Dc mX12_word 15 (.ldc 212) 2 17 := ⟨zo_18 (by decide +kernel), rfl⟩
theorem dX12_word_17 : Dc mX12_word 17 (.iload_n 2) 1 18 := ⟨zo_28 (by decide +kernel), rfl⟩
theorem dX12_word_18 : Dc mX12_word 18 (.iload_n 3) 1 19 := ⟨zo_29 (by decide +kernel), rfl⟩
theorem dX12_word_19 : Dc mX12_word 19 (.iadd) 1 20 := ⟨zo_96 (by decide +kernel), rfl⟩
theorem dX12_word_20 : Dc mX12_word 20 (.invokevirtual 219) 3 23 := ⟨zo_182 (w := 0) (x := 219) (by decide +kernel), rfl⟩
theorem dX12_word_23 : Dc mX12_word 23 (.bipush 32) 2 25 := ⟨zo_16 (w := 32) (by decide +kernel), rfl⟩
theorem dX12_word_25 : Dc mX12_word 25 (.if_icmp .eq 44) 3 28 := ⟨zo_159 (w := 0) (x := 44) (by decide +kernel), rfl⟩
theorem dX12_word_28 : Dc mX12_word 28 (.aload_n 0) 1 29 := ⟨zo_42 (by decide +kernel), rfl⟩
theorem dX12_word_29 : Dc mX12_word 29 (.getfield 185) 3 32 := ⟨zo_180 (w := 0) (x := 185) (by decide +kernel), rfl⟩
theorem dX12_word_32 : Dc mX12_word 32 (.iload_n 3) 1 33 := ⟨zo_29 (by decide +kernel), rfl⟩
theorem dX12_word_33 : Dc mX12_word 33 (.iadd) 1 34 := ⟨zo_96 (by decide +kernel), rfl⟩
theorem dX12_word_34 : Dc mX12_word 34 (.aload_n 0) 1 35 := ⟨zo_42 (by decide +kernel), rfl⟩
theorem dX12_word_35 : Dc mX12_word 35 (.getfield 175) 3 38 := ⟨zo_180 (w := 0) (x := 175) (by decide +kernel), rfl⟩
theorem dX12_word_38 : Dc mX12_word 38 (.if_icmp .ge 31) 3 41 := ⟨zo_162 (w := 0) (x := 31) (by decide +kernel), rfl⟩
theorem dX12_word_41 : Dc mX12_word 41 (.aload_n 0) 1 42 := ⟨zo_42 (by decide +kernel), rfl⟩
theorem dX12_word_42 : Dc mX12_word 42 (.getfield 7) 3 45 := ⟨zo_180 (w := 0) (x := 7) (by decide +kernel), rfl⟩
theorem dX12_word_45 : Dc mX12_word 45 (.aload_n 0) 1 46 := ⟨zo_42 (by decide +kernel), rfl⟩
theorem dX12_word_46 : Dc mX12_word 46 (.getfield 185) 3 49 := ⟨zo_180 (w := 0) (x := 185) (by decide +kernel), rfl⟩
theorem dX12_word_49 : Dc mX12_word 49 (.iload_n 3) 1 50 := ⟨zo_29 (by decide +kernel), rfl⟩
theorem dX12_word_50 : Dc mX12_word 50 (.iadd) 1 51 := ⟨zo_96 (by decide +kernel), rfl⟩
theorem dX12_word_51 : Dc mX12_word 51 (.iaload) 1 52 := ⟨zo_46 (by decide +kernel), rfl⟩
theorem dX12_word_52 : Dc mX12_word 52 (.ldc 212) 2 54 := ⟨zo_18 (by decide +kernel), rfl⟩
theorem dX12_word_54 : Dc mX12_word 54 (.iload_n 2) 1 55 := ⟨zo_28 (by decide +kernel), rfl⟩
theorem dX12_word_55 : Dc mX12_word 55 (.iload_n 3) 1 56 := ⟨zo_29 (by decide +kernel), rfl⟩
theorem dX12_word_56 : Dc mX12_word 56 (.iadd) 1 57 := ⟨zo_96 (by decide +kernel), rfl⟩
theorem dX12_word_57 : Dc mX12_word 57 (.invokevirtual 219) 3 60 := ⟨zo_182 (w := 0) (x := 219) (by decide +kernel), rfl⟩
theorem dX12_word_60 : Dc mX12_word 60 (.if_icmp .ne 9) 3 63 := ⟨zo_160 (w := 0) (x := 9) (by decide +kernel), rfl⟩
theorem dX12_word_63 : Dc mX12_word 63 (.iinc 3 1) 3 66 := ⟨zo_iinc (x := 1) (by decide +kernel), rfl⟩
theorem dX12_word_66 : Dc mX12_word 66 (.goto (-51)) 3 69 := ⟨zo_167 (w := 255) (x := 205) (by decide +kernel), rfl⟩
theorem dX12_word_69 : Dc mX12_word 69 (.ldc 212) 2 71 := ⟨zo_18 (by decide +kernel), rfl⟩
theorem dX12_word_71 : Dc mX12_word 71 (.iload_n 2) 1 72 := ⟨zo_28 (by decide +kernel), rfl⟩
theorem dX12_word_72 : Dc mX12_word 72 (.iload_n 3) 1 73 := ⟨zo_29 (by decide +kernel), rfl⟩
theorem dX12_word_73 : Dc mX12_word 73 (.iadd) 1 74 := ⟨zo_96 (by decide +kernel), rfl⟩
theorem dX12_word_74 : Dc mX12_word 74 (.invokevirtual 219) 3 77 := ⟨zo_182 (w := 0) (x := 219) (by decide +kernel), rfl⟩
theorem dX12_word_77 : Dc mX12_word 77 (.bipush 32) 2 79 := ⟨zo_16 (w := 32) (by decide +kernel), rfl⟩
theorem dX12_word_79 : Dc mX12_word 79 (.if_icmp .ne 18) 3 82 := ⟨zo_160 (w := 0) (x := 18) (by decide +kernel), rfl⟩
theorem dX12_word_82 : Dc mX12_word 82 (.aload_n 0) 1 83 := ⟨zo_42 (by decide +kernel), rfl⟩
theorem dX12_word_83 : Dc mX12_word 83 (.getfield 185) 3 86 := ⟨zo_180 (w := 0) (x := 185) (by decide +kernel), rfl⟩
theorem dX12_word_86 : Dc mX12_word 86 (.iload_n 3) 1 87 := ⟨zo_29 (by decide +kernel), rfl⟩
theorem dX12_word_87 : Dc mX12_word 87 (.iadd) 1 88 := ⟨zo_96 (by decide +kernel), rfl⟩
theorem dX12_word_88 : Dc mX12_word 88 (.aload_n 0) 1 89 := ⟨zo_42 (by decide +kernel), rfl⟩
theorem dX12_word_89 : Dc mX12_word 89 (.getfield 175) 3 92 := ⟨zo_180 (w := 0) (x := 175) (by decide +kernel), rfl⟩
theorem dX12_word_92 : Dc mX12_word 92 (.if_icmp .ne 5) 3 95 := ⟨zo_160 (w := 0) (x := 5) (by decide +kernel), rfl⟩
theorem dX12_word_95 : Dc mX12_word 95 (.iload_n 1) 1 96 := ⟨zo_27 (by decide +kernel), rfl⟩
theorem dX12_word_96 : Dc mX12_word 96 (.ireturn) 1 97 := ⟨zo_172 (by decide +kernel), rfl⟩
theorem dX12_word_97 : Dc mX12_word 97 (.ldc 212) 2 99 := ⟨zo_18 (by decide +kernel), rfl⟩
theorem dX12_word_99 : Dc mX12_word 99 (.iload_n 2) 1 100 := ⟨zo_28 (by decide +kernel), rfl⟩
theorem dX12_word_100 : Dc mX12_word 100 (.invokevirtual 219) 3 103 := ⟨zo_182 (w := 0) (x := 219) (by decide +kernel), rfl⟩
theorem dX12_word_103 : Dc mX12_word 103 (.bipush 32) 2 105 := ⟨zo_16 (w := 32) (by decide +kernel), rfl⟩
theorem dX12_word_105 : Dc mX12_word 105 (.if_icmp .eq 9) 3 108 := ⟨zo_159 (w := 0) (x := 9) (by decide +kernel), rfl⟩
theorem dX12_word_108 : Dc mX12_word 108 (.iinc 2 1) 3 111 := ⟨zo_iinc (x := 1) (by decide +kernel), rfl⟩
theorem dX12_word_111 : Dc mX12_word 111 (.goto (-14)) 3 114 := ⟨zo_167 (w := 255) (x := 242) (by decide +kernel), rfl⟩
theorem dX12_word_114 : Dc mX12_word 114 (.iinc 2 1) 3 117 := ⟨zo_iinc (x := 1) (by decide +kernel), rfl⟩
theorem dX12_word_117 : Dc mX12_word 117 (.iinc 1 1) 3 120 := ⟨zo_iinc (x := 1) (by decide +kernel), rfl⟩
theorem dX12_word_120 : Dc mX12_word 120 (.goto (-116)) 3 123 := ⟨zo_167 (w := 255) (x := 140) (by decide +kernel), rfl⟩
theorem dX12_word_123 : Dc mX12_word 123 (.iconst (-1)) 1 124 := ⟨zo_2 (by decide +kernel), rfl⟩
theorem dX12_word_124 : Dc mX12_word 124 (.ireturn) 1 125 := ⟨zo_172 (by decide +kernel), rfl⟩
theorem dX12_name_0 : Dc mX12_name 0 (.aload_n 0) 1 1 := ⟨zo_42 (by decide +kernel), rfl⟩
theorem dX12_name_1 : Dc mX12_name 1 (.iconst 0) 1 2 := ⟨zo_3 (by decide +kernel), rfl⟩
theorem dX12_name_2 : Dc mX12_name 2 (.putfield 198) 3 5 := ⟨zo_181 (w := 0) (x := 198) (by decide +kernel), rfl⟩
theorem dX12_name_5 : Dc mX12_name 5 (.iconst 0) 1 6 := ⟨zo_3 (by decide +kernel), rfl⟩
theorem dX12_name_6 : Dc mX12_name 6 (.istore_n 1) 1 7 := ⟨zo_60 (by decide +kernel), rfl⟩
theorem dX12_name_7 : Dc mX12_name 7 (.iload_n 1) 1 8 := ⟨zo_27 (by decide +kernel), rfl⟩
theorem dX12_name_8 : Dc mX12_name 8 (.bipush 6) 2 10 := ⟨zo_16 (w := 6) (by decide +kernel), rfl⟩
theorem dX12_name_10 : Dc mX12_name 10 (.if_icmp .ge 53) 3 13 := ⟨zo_162 (w := 0) (x := 53) (by decide +kernel), rfl⟩
theorem dX12_name_13 : Dc mX12_name 13 (.aload_n 0) 1 14 := ⟨zo_42 (by decide +kernel), rfl⟩
theorem dX12_name_14 : Dc mX12_name 14 (.aload_n 0) 1 15 := ⟨zo_42 (by decide +kernel), rfl⟩
theorem dX12_name_15 : Dc mX12_name 15 (.getfield 198) 3 18 := ⟨zo_180 (w := 0) (x := 198) (by decide +kernel), rfl⟩
theorem dX12_name_18 : Dc mX12_name 18 (.iconst 5) 1 19 := ⟨zo_8 (by decide +kernel), rfl⟩
theorem dX12_name_19 : Dc mX12_name 19 (.ishl) 1 20 := ⟨zo_120 (by decide +kernel), rfl⟩
theorem dX12_name_20 : Dc mX12_name 20 (.aload_n 0) 1 21 := ⟨zo_42 (by decide +kernel), rfl⟩
theorem dX12_name_21 : Dc mX12_name 21 (.getfield 185) 3 24 := ⟨zo_180 (w := 0) (x := 185) (by decide +kernel), rfl⟩
theorem dX12_name_24 : Dc mX12_name 24 (.iload_n 1) 1 25 := ⟨zo_27 (by decide +kernel), rfl⟩
theorem dX12_name_25 : Dc mX12_name 25 (.iadd) 1 26 := ⟨zo_96 (by decide +kernel), rfl⟩
theorem dX12_name_26 : Dc mX12_name 26 (.aload_n 0) 1 27 := ⟨zo_42 (by decide +kernel), rfl⟩
theorem dX12_name_27 : Dc mX12_name 27 (.getfield 175) 3 30 := ⟨zo_180 (w := 0) (x := 175) (by decide +kernel), rfl⟩
theorem dX12_name_30 : Dc mX12_name 30 (.if_icmp .ge 22) 3 33 := ⟨zo_162 (w := 0) (x := 22) (by decide +kernel), rfl⟩
theorem dX12_name_33 : Dc mX12_name 33 (.aload_n 0) 1 34 := ⟨zo_42 (by decide +kernel), rfl⟩
theorem dX12_name_34 : Dc mX12_name 34 (.getfield 7) 3 37 := ⟨zo_180 (w := 0) (x := 7) (by decide +kernel), rfl⟩
theorem dX12_name_37 : Dc mX12_name 37 (.aload_n 0) 1 38 := ⟨zo_42 (by decide +kernel), rfl⟩
theorem dX12_name_38 : Dc mX12_name 38 (.getfield 185) 3 41 := ⟨zo_180 (w := 0) (x := 185) (by decide +kernel), rfl⟩
theorem dX12_name_41 : Dc mX12_name 41 (.iload_n 1) 1 42 := ⟨zo_27 (by decide +kernel), rfl⟩
theorem dX12_name_42 : Dc mX12_name 42 (.iadd) 1 43 := ⟨zo_96 (by decide +kernel), rfl⟩
theorem dX12_name_43 : Dc mX12_name 43 (.iaload) 1 44 := ⟨zo_46 (by decide +kernel), rfl⟩
theorem dX12_name_44 : Dc mX12_name 44 (.bipush 97) 2 46 := ⟨zo_16 (w := 97) (by decide +kernel), rfl⟩
theorem dX12_name_46 : Dc mX12_name 46 (.isub) 1 47 := ⟨zo_100 (by decide +kernel), rfl⟩
theorem dX12_name_47 : Dc mX12_name 47 (.iconst 1) 1 48 := ⟨zo_4 (by decide +kernel), rfl⟩
theorem dX12_name_48 : Dc mX12_name 48 (.iadd) 1 49 := ⟨zo_96 (by decide +kernel), rfl⟩
theorem dX12_name_49 : Dc mX12_name 49 (.goto 4) 3 52 := ⟨zo_167 (w := 0) (x := 4) (by decide +kernel), rfl⟩
theorem dX12_name_52 : Dc mX12_name 52 (.iconst 0) 1 53 := ⟨zo_3 (by decide +kernel), rfl⟩
theorem dX12_name_53 : Dc mX12_name 53 (.ior) 1 54 := ⟨zo_128 (by decide +kernel), rfl⟩
theorem dX12_name_54 : Dc mX12_name 54 (.putfield 198) 3 57 := ⟨zo_181 (w := 0) (x := 198) (by decide +kernel), rfl⟩
theorem dX12_name_57 : Dc mX12_name 57 (.iinc 1 1) 3 60 := ⟨zo_iinc (x := 1) (by decide +kernel), rfl⟩
theorem dX12_name_60 : Dc mX12_name 60 (.goto (-53)) 3 63 := ⟨zo_167 (w := 255) (x := 203) (by decide +kernel), rfl⟩
theorem dX12_name_63 : Dc mX12_name 63 (.return_) 1 64 := ⟨zo_177 (by decide +kernel), rfl⟩
theorem dX12_wrong_0 : Dc mX12_wrong 0 (.aload_n 0) 1 1 := ⟨zo_42 (by decide +kernel), rfl⟩
theorem dX12_wrong_1 : Dc mX12_wrong 1 (.getfield 223) 3 4 := ⟨zo_180 (w := 0) (x := 223) (by decide +kernel), rfl⟩
theorem dX12_wrong_4 : Dc mX12_wrong 4 (.ifCond .eq 4) 3 7 := ⟨zo_153 (w := 0) (x := 4) (by decide +kernel), rfl⟩
theorem dX12_wrong_7 : Dc mX12_wrong 7 (.return_) 1 8 := ⟨zo_177 (by decide +kernel), rfl⟩
theorem dX12_wrong_8 : Dc mX12_wrong 8 (.aload_n 0) 1 9 := ⟨zo_42 (by decide +kernel), rfl⟩
theorem dX12_wrong_9 : Dc mX12_wrong 9 (.iload_n 1) 1 10 := ⟨zo_27 (by decide +kernel), rfl⟩
theorem dX12_wrong_10 : Dc mX12_wrong 10 (.putfield 223) 3 13 := ⟨zo_181 (w := 0) (x := 223) (by decide +kernel), rfl⟩
theorem dX12_wrong_13 : Dc mX12_wrong 13 (.aload_n 0) 1 14 := ⟨zo_42 (by decide +kernel), rfl⟩
theorem dX12_wrong_14 : Dc mX12_wrong 14 (.aload_n 0) 1 15 := ⟨zo_42 (by decide +kernel), rfl⟩
theorem dX12_wrong_15 : Dc mX12_wrong 15 (.getfield 185) 3 18 := ⟨zo_180 (w := 0) (x := 185) (by decide +kernel), rfl⟩
theorem dX12_wrong_18 : Dc mX12_wrong 18 (.putfield 226) 3 21 := ⟨zo_181 (w := 0) (x := 226) (by decide +kernel), rfl⟩
theorem dX12_wrong_21 : Dc mX12_wrong 21 (.return_) 1 22 := ⟨zo_177 (by decide +kernel), rfl⟩
theorem dX12_isWord_0 : Dc mX12_isWord 0 (.aload_n 0) 1 1 := ⟨zo_42 (by decide +kernel), rfl⟩
theorem dX12_isWord_1 : Dc mX12_isWord 1 (.getfield 223) 3 4 := ⟨zo_180 (w := 0) (x := 223) (by decide +kernel), rfl⟩
theorem dX12_isWord_4 : Dc mX12_isWord 4 (.ifCond .ne 22) 3 7 := ⟨zo_154 (w := 0) (x := 22) (by decide +kernel), rfl⟩
theorem dX12_isWord_7 : Dc mX12_isWord 7 (.aload_n 0) 1 8 := ⟨zo_42 (by decide +kernel), rfl⟩
theorem dX12_isWord_8 : Dc mX12_isWord 8 (.getfield 188) 3 11 := ⟨zo_180 (w := 0) (x := 188) (by decide +kernel), rfl⟩
theorem dX12_isWord_11 : Dc mX12_isWord 11 (.ifCond .ne 15) 3 14 := ⟨zo_154 (w := 0) (x := 15) (by decide +kernel), rfl⟩
theorem dX12_isWord_14 : Dc mX12_isWord 14 (.aload_n 0) 1 15 := ⟨zo_42 (by decide +kernel), rfl⟩
theorem dX12_isWord_15 : Dc mX12_isWord 15 (.getfield 198) 3 18 := ⟨zo_180 (w := 0) (x := 198) (by decide +kernel), rfl⟩
theorem dX12_isWord_18 : Dc mX12_isWord 18 (.iload_n 1) 1 19 := ⟨zo_27 (by decide +kernel), rfl⟩
theorem dX12_isWord_19 : Dc mX12_isWord 19 (.if_icmp .ne 7) 3 22 := ⟨zo_160 (w := 0) (x := 7) (by decide +kernel), rfl⟩
theorem dX12_isWord_22 : Dc mX12_isWord 22 (.iconst 1) 1 23 := ⟨zo_4 (by decide +kernel), rfl⟩
theorem dX12_isWord_23 : Dc mX12_isWord 23 (.goto 4) 3 26 := ⟨zo_167 (w := 0) (x := 4) (by decide +kernel), rfl⟩
theorem dX12_isWord_26 : Dc mX12_isWord 26 (.iconst 0) 1 27 := ⟨zo_3 (by decide +kernel), rfl⟩
theorem dX12_isWord_27 : Dc mX12_isWord 27 (.ireturn) 1 28 := ⟨zo_172 (by decide +kernel), rfl⟩
theorem dX12_isSign_0 : Dc mX12_isSign 0 (.aload_n 0) 1 1 := ⟨zo_42 (by decide +kernel), rfl⟩
theorem dX12_isSign_1 : Dc mX12_isSign 1 (.getfield 223) 3 4 := ⟨zo_180 (w := 0) (x := 223) (by decide +kernel), rfl⟩
theorem dX12_isSign_4 : Dc mX12_isSign 4 (.ifCond .ne 23) 3 7 := ⟨zo_154 (w := 0) (x := 23) (by decide +kernel), rfl⟩
theorem dX12_isSign_7 : Dc mX12_isSign 7 (.aload_n 0) 1 8 := ⟨zo_42 (by decide +kernel), rfl⟩
theorem dX12_isSign_8 : Dc mX12_isSign 8 (.getfield 188) 3 11 := ⟨zo_180 (w := 0) (x := 188) (by decide +kernel), rfl⟩
theorem dX12_isSign_11 : Dc mX12_isSign 11 (.iconst 3) 1 12 := ⟨zo_6 (by decide +kernel), rfl⟩
theorem dX12_isSign_12 : Dc mX12_isSign 12 (.if_icmp .ne 15) 3 15 := ⟨zo_160 (w := 0) (x := 15) (by decide +kernel), rfl⟩
theorem dX12_isSign_15 : Dc mX12_isSign 15 (.aload_n 0) 1 16 := ⟨zo_42 (by decide +kernel), rfl⟩
theorem dX12_isSign_16 : Dc mX12_isSign 16 (.getfield 198) 3 19 := ⟨zo_180 (w := 0) (x := 198) (by decide +kernel), rfl⟩
theorem dX12_isSign_19 : Dc mX12_isSign 19 (.iload_n 1) 1 20 := ⟨zo_27 (by decide +kernel), rfl⟩
theorem dX12_isSign_20 : Dc mX12_isSign 20 (.if_icmp .ne 7) 3 23 := ⟨zo_160 (w := 0) (x := 7) (by decide +kernel), rfl⟩
theorem dX12_isSign_23 : Dc mX12_isSign 23 (.iconst 1) 1 24 := ⟨zo_4 (by decide +kernel), rfl⟩
theorem dX12_isSign_24 : Dc mX12_isSign 24 (.goto 4) 3 27 := ⟨zo_167 (w := 0) (x := 4) (by decide +kernel), rfl⟩
theorem dX12_isSign_27 : Dc mX12_isSign 27 (.iconst 0) 1 28 := ⟨zo_3 (by decide +kernel), rfl⟩
theorem dX12_isSign_28 : Dc mX12_isSign 28 (.ireturn) 1 29 := ⟨zo_172 (by decide +kernel), rfl⟩
theorem dX12_goOn_0 : Dc mX12_goOn 0 (.aload_n 0) 1 1 := ⟨zo_42 (by decide +kernel), rfl⟩
theorem dX12_goOn_1 : Dc mX12_goOn 1 (.getfield 223) 3 4 := ⟨zo_180 (w := 0) (x := 223) (by decide +kernel), rfl⟩
theorem dX12_goOn_4 : Dc mX12_goOn 4 (.ifCond .ne 7) 3 7 := ⟨zo_154 (w := 0) (x := 7) (by decide +kernel), rfl⟩
theorem dX12_goOn_7 : Dc mX12_goOn 7 (.aload_n 0) 1 8 := ⟨zo_42 (by decide +kernel), rfl⟩
theorem dX12_goOn_8 : Dc mX12_goOn 8 (.invokevirtual 229) 3 11 := ⟨zo_182 (w := 0) (x := 229) (by decide +kernel), rfl⟩
theorem dX12_goOn_11 : Dc mX12_goOn 11 (.return_) 1 12 := ⟨zo_177 (by decide +kernel), rfl⟩
theorem dX12_numeral_0 : Dc mX12_numeral 0 (.aload_n 0) 1 1 := ⟨zo_42 (by decide +kernel), rfl⟩
theorem dX12_numeral_1 : Dc mX12_numeral 1 (.getfield 223) 3 4 := ⟨zo_180 (w := 0) (x := 223) (by decide +kernel), rfl⟩
theorem dX12_numeral_4 : Dc mX12_numeral 4 (.ifCond .eq 5) 3 7 := ⟨zo_153 (w := 0) (x := 5) (by decide +kernel), rfl⟩
theorem dX12_numeral_7 : Dc mX12_numeral 7 (.iload_n 1) 1 8 := ⟨zo_27 (by decide +kernel), rfl⟩
theorem dX12_numeral_8 : Dc mX12_numeral 8 (.ireturn) 1 9 := ⟨zo_172 (by decide +kernel), rfl⟩
theorem dX12_numeral_9 : Dc mX12_numeral 9 (.aload_n 0) 1 10 := ⟨zo_42 (by decide +kernel), rfl⟩
theorem dX12_numeral_10 : Dc mX12_numeral 10 (.getfield 188) 3 13 := ⟨zo_180 (w := 0) (x := 188) (by decide +kernel), rfl⟩
theorem dX12_numeral_13 : Dc mX12_numeral 13 (.iconst 2) 1 14 := ⟨zo_5 (by decide +kernel), rfl⟩
theorem dX12_numeral_14 : Dc mX12_numeral 14 (.if_icmp .eq 11) 3 17 := ⟨zo_159 (w := 0) (x := 11) (by decide +kernel), rfl⟩
theorem dX12_numeral_17 : Dc mX12_numeral 17 (.aload_n 0) 1 18 := ⟨zo_42 (by decide +kernel), rfl⟩
theorem dX12_numeral_18 : Dc mX12_numeral 18 (.iconst 1) 1 19 := ⟨zo_4 (by decide +kernel), rfl⟩
theorem dX12_numeral_19 : Dc mX12_numeral 19 (.invokevirtual 232) 3 22 := ⟨zo_182 (w := 0) (x := 232) (by decide +kernel), rfl⟩
theorem dX12_numeral_22 : Dc mX12_numeral 22 (.goto 24) 3 25 := ⟨zo_167 (w := 0) (x := 24) (by decide +kernel), rfl⟩
theorem dX12_numeral_25 : Dc mX12_numeral 25 (.aload_n 0) 1 26 := ⟨zo_42 (by decide +kernel), rfl⟩
theorem dX12_numeral_26 : Dc mX12_numeral 26 (.getfield 198) 3 29 := ⟨zo_180 (w := 0) (x := 198) (by decide +kernel), rfl⟩
theorem dX12_numeral_29 : Dc mX12_numeral 29 (.iload_n 1) 1 30 := ⟨zo_27 (by decide +kernel), rfl⟩
theorem dX12_numeral_30 : Dc mX12_numeral 30 (.if_icmp .lt 11) 3 33 := ⟨zo_161 (w := 0) (x := 11) (by decide +kernel), rfl⟩
theorem dX12_numeral_33 : Dc mX12_numeral 33 (.aload_n 0) 1 34 := ⟨zo_42 (by decide +kernel), rfl⟩
theorem dX12_numeral_34 : Dc mX12_numeral 34 (.getfield 198) 3 37 := ⟨zo_180 (w := 0) (x := 198) (by decide +kernel), rfl⟩
theorem dX12_numeral_37 : Dc mX12_numeral 37 (.iload_n 2) 1 38 := ⟨zo_28 (by decide +kernel), rfl⟩
theorem dX12_numeral_38 : Dc mX12_numeral 38 (.if_icmp .le 8) 3 41 := ⟨zo_164 (w := 0) (x := 8) (by decide +kernel), rfl⟩
theorem dX12_numeral_41 : Dc mX12_numeral 41 (.aload_n 0) 1 42 := ⟨zo_42 (by decide +kernel), rfl⟩
theorem dX12_numeral_42 : Dc mX12_numeral 42 (.iconst 2) 1 43 := ⟨zo_5 (by decide +kernel), rfl⟩
theorem dX12_numeral_43 : Dc mX12_numeral 43 (.invokevirtual 232) 3 46 := ⟨zo_182 (w := 0) (x := 232) (by decide +kernel), rfl⟩
theorem dX12_numeral_46 : Dc mX12_numeral 46 (.aload_n 0) 1 47 := ⟨zo_42 (by decide +kernel), rfl⟩
theorem dX12_numeral_47 : Dc mX12_numeral 47 (.getfield 223) 3 50 := ⟨zo_180 (w := 0) (x := 223) (by decide +kernel), rfl⟩
theorem dX12_numeral_50 : Dc mX12_numeral 50 (.ifCond .eq 5) 3 53 := ⟨zo_153 (w := 0) (x := 5) (by decide +kernel), rfl⟩
theorem dX12_numeral_53 : Dc mX12_numeral 53 (.iload_n 1) 1 54 := ⟨zo_27 (by decide +kernel), rfl⟩
theorem dX12_numeral_54 : Dc mX12_numeral 54 (.ireturn) 1 55 := ⟨zo_172 (by decide +kernel), rfl⟩
theorem dX12_numeral_55 : Dc mX12_numeral 55 (.aload_n 0) 1 56 := ⟨zo_42 (by decide +kernel), rfl⟩
theorem dX12_numeral_56 : Dc mX12_numeral 56 (.getfield 198) 3 59 := ⟨zo_180 (w := 0) (x := 198) (by decide +kernel), rfl⟩
theorem dX12_numeral_59 : Dc mX12_numeral 59 (.istore_n 3) 1 60 := ⟨zo_62 (by decide +kernel), rfl⟩
theorem dX12_numeral_60 : Dc mX12_numeral 60 (.aload_n 0) 1 61 := ⟨zo_42 (by decide +kernel), rfl⟩
theorem dX12_numeral_61 : Dc mX12_numeral 61 (.invokevirtual 229) 3 64 := ⟨zo_182 (w := 0) (x := 229) (by decide +kernel), rfl⟩
theorem dX12_numeral_64 : Dc mX12_numeral 64 (.iload_n 3) 1 65 := ⟨zo_29 (by decide +kernel), rfl⟩
theorem dX12_numeral_65 : Dc mX12_numeral 65 (.ireturn) 1 66 := ⟨zo_172 (by decide +kernel), rfl⟩
theorem dX12_found_0 : Dc mX12_found 0 (.iconst 0) 1 1 := ⟨zo_3 (by decide +kernel), rfl⟩
theorem dX12_found_1 : Dc mX12_found 1 (.istore 4) 2 3 := ⟨zo_54 (by decide +kernel), rfl⟩
theorem dX12_found_3 : Dc mX12_found 3 (.iload 4) 2 5 := ⟨zo_21 (by decide +kernel), rfl⟩
theorem dX12_found_5 : Dc mX12_found 5 (.iload_n 2) 1 6 := ⟨zo_28 (by decide +kernel), rfl⟩
theorem dX12_found_6 : Dc mX12_found 6 (.if_icmp .ge 22) 3 9 := ⟨zo_162 (w := 0) (x := 22) (by decide +kernel), rfl⟩
theorem dX12_found_9 : Dc mX12_found 9 (.aload_n 0) 1 10 := ⟨zo_42 (by decide +kernel), rfl⟩
theorem dX12_found_10 : Dc mX12_found 10 (.iload_n 1) 1 11 := ⟨zo_27 (by decide +kernel), rfl⟩
theorem dX12_found_11 : Dc mX12_found 11 (.iload 4) 2 13 := ⟨zo_21 (by decide +kernel), rfl⟩
theorem dX12_found_13 : Dc mX12_found 13 (.iadd) 1 14 := ⟨zo_96 (by decide +kernel), rfl⟩
theorem dX12_found_14 : Dc mX12_found 14 (.iaload) 1 15 := ⟨zo_46 (by decide +kernel), rfl⟩
theorem dX12_found_15 : Dc mX12_found 15 (.iload_n 3) 1 16 := ⟨zo_29 (by decide +kernel), rfl⟩
theorem dX12_found_16 : Dc mX12_found 16 (.if_icmp .ne 6) 3 19 := ⟨zo_160 (w := 0) (x := 6) (by decide +kernel), rfl⟩
theorem dX12_found_19 : Dc mX12_found 19 (.iload 4) 2 21 := ⟨zo_21 (by decide +kernel), rfl⟩
theorem dX12_found_21 : Dc mX12_found 21 (.ireturn) 1 22 := ⟨zo_172 (by decide +kernel), rfl⟩
theorem dX12_found_22 : Dc mX12_found 22 (.iinc 4 1) 3 25 := ⟨zo_iinc (x := 1) (by decide +kernel), rfl⟩
theorem dX12_found_25 : Dc mX12_found 25 (.goto (-22)) 3 28 := ⟨zo_167 (w := 255) (x := 234) (by decide +kernel), rfl⟩
theorem dX12_found_28 : Dc mX12_found 28 (.iconst (-1)) 1 29 := ⟨zo_2 (by decide +kernel), rfl⟩
theorem dX12_found_29 : Dc mX12_found 29 (.ireturn) 1 30 := ⟨zo_172 (by decide +kernel), rfl⟩
theorem dX12_fresh_0 : Dc mX12_fresh 0 (.aload_n 0) 1 1 := ⟨zo_42 (by decide +kernel), rfl⟩
theorem dX12_fresh_1 : Dc mX12_fresh 1 (.getfield 223) 3 4 := ⟨zo_180 (w := 0) (x := 223) (by decide +kernel), rfl⟩
theorem dX12_fresh_4 : Dc mX12_fresh 4 (.ifCond .eq 5) 3 7 := ⟨zo_153 (w := 0) (x := 5) (by decide +kernel), rfl⟩
theorem dX12_fresh_7 : Dc mX12_fresh 7 (.iconst 0) 1 8 := ⟨zo_3 (by decide +kernel), rfl⟩
theorem dX12_fresh_8 : Dc mX12_fresh 8 (.ireturn) 1 9 := ⟨zo_172 (by decide +kernel), rfl⟩
theorem dX12_fresh_9 : Dc mX12_fresh 9 (.aload_n 0) 1 10 := ⟨zo_42 (by decide +kernel), rfl⟩
theorem dX12_fresh_10 : Dc mX12_fresh 10 (.getfield 188) 3 13 := ⟨zo_180 (w := 0) (x := 188) (by decide +kernel), rfl⟩
theorem dX12_fresh_13 : Dc mX12_fresh 13 (.iconst 1) 1 14 := ⟨zo_4 (by decide +kernel), rfl⟩
theorem dX12_fresh_14 : Dc mX12_fresh 14 (.if_icmp .eq 11) 3 17 := ⟨zo_159 (w := 0) (x := 11) (by decide +kernel), rfl⟩
theorem dX12_fresh_17 : Dc mX12_fresh 17 (.aload_n 0) 1 18 := ⟨zo_42 (by decide +kernel), rfl⟩
theorem dX12_fresh_18 : Dc mX12_fresh 18 (.iconst 1) 1 19 := ⟨zo_4 (by decide +kernel), rfl⟩
theorem dX12_fresh_19 : Dc mX12_fresh 19 (.invokevirtual 232) 3 22 := ⟨zo_182 (w := 0) (x := 232) (by decide +kernel), rfl⟩
theorem dX12_fresh_22 : Dc mX12_fresh 22 (.goto 22) 3 25 := ⟨zo_167 (w := 0) (x := 22) (by decide +kernel), rfl⟩
theorem dX12_fresh_25 : Dc mX12_fresh 25 (.aload_n 1) 1 26 := ⟨zo_43 (by decide +kernel), rfl⟩
theorem dX12_fresh_26 : Dc mX12_fresh 26 (.iload_n 2) 1 27 := ⟨zo_28 (by decide +kernel), rfl⟩
theorem dX12_fresh_27 : Dc mX12_fresh 27 (.iload_n 3) 1 28 := ⟨zo_29 (by decide +kernel), rfl⟩
theorem dX12_fresh_28 : Dc mX12_fresh 28 (.aload_n 0) 1 29 := ⟨zo_42 (by decide +kernel), rfl⟩
theorem dX12_fresh_29 : Dc mX12_fresh 29 (.getfield 198) 3 32 := ⟨zo_180 (w := 0) (x := 198) (by decide +kernel), rfl⟩
theorem dX12_fresh_32 : Dc mX12_fresh 32 (.invokestatic 235) 3 35 := ⟨zo_184 (w := 0) (x := 235) (by decide +kernel), rfl⟩
theorem dX12_fresh_35 : Dc mX12_fresh 35 (.iconst (-1)) 1 36 := ⟨zo_2 (by decide +kernel), rfl⟩
theorem dX12_fresh_36 : Dc mX12_fresh 36 (.if_icmp .eq 8) 3 39 := ⟨zo_159 (w := 0) (x := 8) (by decide +kernel), rfl⟩
theorem dX12_fresh_39 : Dc mX12_fresh 39 (.aload_n 0) 1 40 := ⟨zo_42 (by decide +kernel), rfl⟩
theorem dX12_fresh_40 : Dc mX12_fresh 40 (.iconst 3) 1 41 := ⟨zo_6 (by decide +kernel), rfl⟩
theorem dX12_fresh_41 : Dc mX12_fresh 41 (.invokevirtual 232) 3 44 := ⟨zo_182 (w := 0) (x := 232) (by decide +kernel), rfl⟩
theorem dX12_fresh_44 : Dc mX12_fresh 44 (.aload_n 0) 1 45 := ⟨zo_42 (by decide +kernel), rfl⟩
theorem dX12_fresh_45 : Dc mX12_fresh 45 (.getfield 223) 3 48 := ⟨zo_180 (w := 0) (x := 223) (by decide +kernel), rfl⟩
theorem dX12_fresh_48 : Dc mX12_fresh 48 (.ifCond .eq 5) 3 51 := ⟨zo_153 (w := 0) (x := 5) (by decide +kernel), rfl⟩
theorem dX12_fresh_51 : Dc mX12_fresh 51 (.iconst 0) 1 52 := ⟨zo_3 (by decide +kernel), rfl⟩
theorem dX12_fresh_52 : Dc mX12_fresh 52 (.ireturn) 1 53 := ⟨zo_172 (by decide +kernel), rfl⟩
theorem dX12_fresh_53 : Dc mX12_fresh 53 (.aload_n 0) 1 54 := ⟨zo_42 (by decide +kernel), rfl⟩
theorem dX12_fresh_54 : Dc mX12_fresh 54 (.getfield 198) 3 57 := ⟨zo_180 (w := 0) (x := 198) (by decide +kernel), rfl⟩
theorem dX12_fresh_57 : Dc mX12_fresh 57 (.istore 4) 2 59 := ⟨zo_54 (by decide +kernel), rfl⟩
theorem dX12_fresh_59 : Dc mX12_fresh 59 (.aload_n 0) 1 60 := ⟨zo_42 (by decide +kernel), rfl⟩
theorem dX12_fresh_60 : Dc mX12_fresh 60 (.invokevirtual 229) 3 63 := ⟨zo_182 (w := 0) (x := 229) (by decide +kernel), rfl⟩
theorem dX12_fresh_63 : Dc mX12_fresh 63 (.iload 4) 2 65 := ⟨zo_21 (by decide +kernel), rfl⟩
theorem dX12_fresh_65 : Dc mX12_fresh 65 (.ireturn) 1 66 := ⟨zo_172 (by decide +kernel), rfl⟩
theorem dX12_fresher_0 : Dc mX12_fresher 0 (.aload_n 0) 1 1 := ⟨zo_42 (by decide +kernel), rfl⟩
theorem dX12_fresher_1 : Dc mX12_fresher 1 (.getfield 13) 3 4 := ⟨zo_180 (w := 0) (x := 13) (by decide +kernel), rfl⟩
theorem dX12_fresher_4 : Dc mX12_fresher 4 (.bipush 10) 2 6 := ⟨zo_16 (w := 10) (by decide +kernel), rfl⟩
theorem dX12_fresher_6 : Dc mX12_fresher 6 (.iload_n 1) 1 7 := ⟨zo_27 (by decide +kernel), rfl⟩
theorem dX12_fresher_7 : Dc mX12_fresher 7 (.iadd) 1 8 := ⟨zo_96 (by decide +kernel), rfl⟩
theorem dX12_fresher_8 : Dc mX12_fresher 8 (.iaload) 1 9 := ⟨zo_46 (by decide +kernel), rfl⟩
theorem dX12_fresher_9 : Dc mX12_fresher 9 (.ireturn) 1 10 := ⟨zo_172 (by decide +kernel), rfl⟩
theorem dX12_reads_0 : Dc mX12_reads 0 (.aload_n 0) 1 1 := ⟨zo_42 (by decide +kernel), rfl⟩
theorem dX12_reads_1 : Dc mX12_reads 1 (.getfield 13) 3 4 := ⟨zo_180 (w := 0) (x := 13) (by decide +kernel), rfl⟩
theorem dX12_reads_4 : Dc mX12_reads 4 (.bipush 10) 2 6 := ⟨zo_16 (w := 10) (by decide +kernel), rfl⟩
theorem dX12_reads_6 : Dc mX12_reads 6 (.iload_n 1) 1 7 := ⟨zo_27 (by decide +kernel), rfl⟩
theorem dX12_reads_7 : Dc mX12_reads 7 (.iadd) 1 8 := ⟨zo_96 (by decide +kernel), rfl⟩
theorem dX12_reads_8 : Dc mX12_reads 8 (.iload_n 2) 1 9 := ⟨zo_28 (by decide +kernel), rfl⟩
theorem dX12_reads_9 : Dc mX12_reads 9 (.iastore) 1 10 := ⟨zo_79 (by decide +kernel), rfl⟩
theorem dX12_reads_10 : Dc mX12_reads 10 (.return_) 1 11 := ⟨zo_177 (by decide +kernel), rfl⟩
theorem dX12_atHand_0 : Dc mX12_atHand 0 (.aload_n 0) 1 1 := ⟨zo_42 (by decide +kernel), rfl⟩
theorem dX12_atHand_1 : Dc mX12_atHand 1 (.getfield 223) 3 4 := ⟨zo_180 (w := 0) (x := 223) (by decide +kernel), rfl⟩
theorem dX12_atHand_4 : Dc mX12_atHand 4 (.ifCond .eq 5) 3 7 := ⟨zo_153 (w := 0) (x := 5) (by decide +kernel), rfl⟩
theorem dX12_atHand_7 : Dc mX12_atHand 7 (.iconst 0) 1 8 := ⟨zo_3 (by decide +kernel), rfl⟩
theorem dX12_atHand_8 : Dc mX12_atHand 8 (.ireturn) 1 9 := ⟨zo_172 (by decide +kernel), rfl⟩
theorem dX12_atHand_9 : Dc mX12_atHand 9 (.aload_n 0) 1 10 := ⟨zo_42 (by decide +kernel), rfl⟩
theorem dX12_atHand_10 : Dc mX12_atHand 10 (.getfield 188) 3 13 := ⟨zo_180 (w := 0) (x := 188) (by decide +kernel), rfl⟩
theorem dX12_atHand_13 : Dc mX12_atHand 13 (.iconst 1) 1 14 := ⟨zo_4 (by decide +kernel), rfl⟩
theorem dX12_atHand_14 : Dc mX12_atHand 14 (.if_icmp .eq 11) 3 17 := ⟨zo_159 (w := 0) (x := 11) (by decide +kernel), rfl⟩
theorem dX12_atHand_17 : Dc mX12_atHand 17 (.aload_n 0) 1 18 := ⟨zo_42 (by decide +kernel), rfl⟩
theorem dX12_atHand_18 : Dc mX12_atHand 18 (.iconst 1) 1 19 := ⟨zo_4 (by decide +kernel), rfl⟩
theorem dX12_atHand_19 : Dc mX12_atHand 19 (.invokevirtual 232) 3 22 := ⟨zo_182 (w := 0) (x := 232) (by decide +kernel), rfl⟩
theorem dX12_atHand_22 : Dc mX12_atHand 22 (.goto 22) 3 25 := ⟨zo_167 (w := 0) (x := 22) (by decide +kernel), rfl⟩
theorem dX12_atHand_25 : Dc mX12_atHand 25 (.aload_n 1) 1 26 := ⟨zo_43 (by decide +kernel), rfl⟩
theorem dX12_atHand_26 : Dc mX12_atHand 26 (.iload_n 2) 1 27 := ⟨zo_28 (by decide +kernel), rfl⟩
theorem dX12_atHand_27 : Dc mX12_atHand 27 (.iload_n 3) 1 28 := ⟨zo_29 (by decide +kernel), rfl⟩
theorem dX12_atHand_28 : Dc mX12_atHand 28 (.aload_n 0) 1 29 := ⟨zo_42 (by decide +kernel), rfl⟩
theorem dX12_atHand_29 : Dc mX12_atHand 29 (.getfield 198) 3 32 := ⟨zo_180 (w := 0) (x := 198) (by decide +kernel), rfl⟩
theorem dX12_atHand_32 : Dc mX12_atHand 32 (.invokestatic 235) 3 35 := ⟨zo_184 (w := 0) (x := 235) (by decide +kernel), rfl⟩
theorem dX12_atHand_35 : Dc mX12_atHand 35 (.iconst (-1)) 1 36 := ⟨zo_2 (by decide +kernel), rfl⟩
theorem dX12_atHand_36 : Dc mX12_atHand 36 (.if_icmp .ne 8) 3 39 := ⟨zo_160 (w := 0) (x := 8) (by decide +kernel), rfl⟩
theorem dX12_atHand_39 : Dc mX12_atHand 39 (.aload_n 0) 1 40 := ⟨zo_42 (by decide +kernel), rfl⟩
theorem dX12_atHand_40 : Dc mX12_atHand 40 (.iconst 4) 1 41 := ⟨zo_7 (by decide +kernel), rfl⟩
theorem dX12_atHand_41 : Dc mX12_atHand 41 (.invokevirtual 232) 3 44 := ⟨zo_182 (w := 0) (x := 232) (by decide +kernel), rfl⟩
theorem dX12_atHand_44 : Dc mX12_atHand 44 (.aload_n 0) 1 45 := ⟨zo_42 (by decide +kernel), rfl⟩
theorem dX12_atHand_45 : Dc mX12_atHand 45 (.getfield 223) 3 48 := ⟨zo_180 (w := 0) (x := 223) (by decide +kernel), rfl⟩
theorem dX12_atHand_48 : Dc mX12_atHand 48 (.ifCond .eq 7) 3 51 := ⟨zo_153 (w := 0) (x := 7) (by decide +kernel), rfl⟩
theorem dX12_atHand_51 : Dc mX12_atHand 51 (.iconst 0) 1 52 := ⟨zo_3 (by decide +kernel), rfl⟩
theorem dX12_atHand_52 : Dc mX12_atHand 52 (.goto 13) 3 55 := ⟨zo_167 (w := 0) (x := 13) (by decide +kernel), rfl⟩
theorem dX12_atHand_55 : Dc mX12_atHand 55 (.aload_n 1) 1 56 := ⟨zo_43 (by decide +kernel), rfl⟩
theorem dX12_atHand_56 : Dc mX12_atHand 56 (.iload_n 2) 1 57 := ⟨zo_28 (by decide +kernel), rfl⟩
theorem dX12_atHand_57 : Dc mX12_atHand 57 (.iload_n 3) 1 58 := ⟨zo_29 (by decide +kernel), rfl⟩
theorem dX12_atHand_58 : Dc mX12_atHand 58 (.aload_n 0) 1 59 := ⟨zo_42 (by decide +kernel), rfl⟩
theorem dX12_atHand_59 : Dc mX12_atHand 59 (.getfield 198) 3 62 := ⟨zo_180 (w := 0) (x := 198) (by decide +kernel), rfl⟩
theorem dX12_atHand_62 : Dc mX12_atHand 62 (.invokestatic 235) 3 65 := ⟨zo_184 (w := 0) (x := 235) (by decide +kernel), rfl⟩
theorem dX12_atHand_65 : Dc mX12_atHand 65 (.ireturn) 1 66 := ⟨zo_172 (by decide +kernel), rfl⟩
theorem dX12_markAtHand_0 : Dc mX12_markAtHand 0 (.aload_n 0) 1 1 := ⟨zo_42 (by decide +kernel), rfl⟩
theorem dX12_markAtHand_1 : Dc mX12_markAtHand 1 (.aload_n 0) 1 2 := ⟨zo_42 (by decide +kernel), rfl⟩
theorem dX12_markAtHand_2 : Dc mX12_markAtHand 2 (.getfield 16) 3 5 := ⟨zo_180 (w := 0) (x := 16) (by decide +kernel), rfl⟩
theorem dX12_markAtHand_5 : Dc mX12_markAtHand 5 (.bipush 6) 2 7 := ⟨zo_16 (w := 6) (by decide +kernel), rfl⟩
theorem dX12_markAtHand_7 : Dc mX12_markAtHand 7 (.aload_n 0) 1 8 := ⟨zo_42 (by decide +kernel), rfl⟩
theorem dX12_markAtHand_8 : Dc mX12_markAtHand 8 (.iconst 0) 1 9 := ⟨zo_3 (by decide +kernel), rfl⟩
theorem dX12_markAtHand_9 : Dc mX12_markAtHand 9 (.invokevirtual 239) 3 12 := ⟨zo_182 (w := 0) (x := 239) (by decide +kernel), rfl⟩
theorem dX12_markAtHand_12 : Dc mX12_markAtHand 12 (.invokevirtual 243) 3 15 := ⟨zo_182 (w := 0) (x := 243) (by decide +kernel), rfl⟩
theorem dX12_markAtHand_15 : Dc mX12_markAtHand 15 (.ireturn) 1 16 := ⟨zo_172 (by decide +kernel), rfl⟩
theorem dX12_isFull_0 : Dc mX12_isFull 0 (.iload_n 1) 1 1 := ⟨zo_27 (by decide +kernel), rfl⟩
theorem dX12_isFull_1 : Dc mX12_isFull 1 (.tableswitch 132 0 5 #[39, 55, 71, 87, 102, 117]) 39 40 := ⟨by decide +kernel, rfl⟩
theorem dX12_isFull_40 : Dc mX12_isFull 40 (.aload_n 0) 1 41 := ⟨zo_42 (by decide +kernel), rfl⟩
theorem dX12_isFull_41 : Dc mX12_isFull 41 (.iconst 0) 1 42 := ⟨zo_3 (by decide +kernel), rfl⟩
theorem dX12_isFull_42 : Dc mX12_isFull 42 (.invokevirtual 239) 3 45 := ⟨zo_182 (w := 0) (x := 239) (by decide +kernel), rfl⟩
theorem dX12_isFull_45 : Dc mX12_isFull 45 (.bipush 6) 2 47 := ⟨zo_16 (w := 6) (by decide +kernel), rfl⟩
theorem dX12_isFull_47 : Dc mX12_isFull 47 (.if_icmp .ne 7) 3 50 := ⟨zo_160 (w := 0) (x := 7) (by decide +kernel), rfl⟩
theorem dX12_isFull_50 : Dc mX12_isFull 50 (.iconst 1) 1 51 := ⟨zo_4 (by decide +kernel), rfl⟩
theorem dX12_isFull_51 : Dc mX12_isFull 51 (.goto 4) 3 54 := ⟨zo_167 (w := 0) (x := 4) (by decide +kernel), rfl⟩
theorem dX12_isFull_54 : Dc mX12_isFull 54 (.iconst 0) 1 55 := ⟨zo_3 (by decide +kernel), rfl⟩
theorem dX12_isFull_55 : Dc mX12_isFull 55 (.ireturn) 1 56 := ⟨zo_172 (by decide +kernel), rfl⟩
theorem dX12_isFull_56 : Dc mX12_isFull 56 (.aload_n 0) 1 57 := ⟨zo_42 (by decide +kernel), rfl⟩
theorem dX12_isFull_57 : Dc mX12_isFull 57 (.iconst 1) 1 58 := ⟨zo_4 (by decide +kernel), rfl⟩
theorem dX12_isFull_58 : Dc mX12_isFull 58 (.invokevirtual 239) 3 61 := ⟨zo_182 (w := 0) (x := 239) (by decide +kernel), rfl⟩
theorem dX12_isFull_61 : Dc mX12_isFull 61 (.bipush 8) 2 63 := ⟨zo_16 (w := 8) (by decide +kernel), rfl⟩
theorem dX12_isFull_63 : Dc mX12_isFull 63 (.if_icmp .ne 7) 3 66 := ⟨zo_160 (w := 0) (x := 7) (by decide +kernel), rfl⟩
theorem dX12_isFull_66 : Dc mX12_isFull 66 (.iconst 1) 1 67 := ⟨zo_4 (by decide +kernel), rfl⟩
theorem dX12_isFull_67 : Dc mX12_isFull 67 (.goto 4) 3 70 := ⟨zo_167 (w := 0) (x := 4) (by decide +kernel), rfl⟩
theorem dX12_isFull_70 : Dc mX12_isFull 70 (.iconst 0) 1 71 := ⟨zo_3 (by decide +kernel), rfl⟩
theorem dX12_isFull_71 : Dc mX12_isFull 71 (.ireturn) 1 72 := ⟨zo_172 (by decide +kernel), rfl⟩
theorem dX12_isFull_72 : Dc mX12_isFull 72 (.aload_n 0) 1 73 := ⟨zo_42 (by decide +kernel), rfl⟩
theorem dX12_isFull_73 : Dc mX12_isFull 73 (.iconst 2) 1 74 := ⟨zo_5 (by decide +kernel), rfl⟩
theorem dX12_isFull_74 : Dc mX12_isFull 74 (.invokevirtual 239) 3 77 := ⟨zo_182 (w := 0) (x := 239) (by decide +kernel), rfl⟩
theorem dX12_isFull_77 : Dc mX12_isFull 77 (.bipush 20) 2 79 := ⟨zo_16 (w := 20) (by decide +kernel), rfl⟩
theorem dX12_isFull_79 : Dc mX12_isFull 79 (.if_icmp .ne 7) 3 82 := ⟨zo_160 (w := 0) (x := 7) (by decide +kernel), rfl⟩
theorem dX12_isFull_82 : Dc mX12_isFull 82 (.iconst 1) 1 83 := ⟨zo_4 (by decide +kernel), rfl⟩
theorem dX12_isFull_83 : Dc mX12_isFull 83 (.goto 4) 3 86 := ⟨zo_167 (w := 0) (x := 4) (by decide +kernel), rfl⟩
theorem dX12_isFull_86 : Dc mX12_isFull 86 (.iconst 0) 1 87 := ⟨zo_3 (by decide +kernel), rfl⟩
theorem dX12_isFull_87 : Dc mX12_isFull 87 (.ireturn) 1 88 := ⟨zo_172 (by decide +kernel), rfl⟩
theorem dX12_isFull_88 : Dc mX12_isFull 88 (.aload_n 0) 1 89 := ⟨zo_42 (by decide +kernel), rfl⟩
theorem dX12_isFull_89 : Dc mX12_isFull 89 (.iconst 3) 1 90 := ⟨zo_6 (by decide +kernel), rfl⟩
theorem dX12_isFull_90 : Dc mX12_isFull 90 (.invokevirtual 239) 3 93 := ⟨zo_182 (w := 0) (x := 239) (by decide +kernel), rfl⟩
theorem dX12_isFull_93 : Dc mX12_isFull 93 (.iconst 4) 1 94 := ⟨zo_7 (by decide +kernel), rfl⟩
theorem dX12_isFull_94 : Dc mX12_isFull 94 (.if_icmp .ne 7) 3 97 := ⟨zo_160 (w := 0) (x := 7) (by decide +kernel), rfl⟩
theorem dX12_isFull_97 : Dc mX12_isFull 97 (.iconst 1) 1 98 := ⟨zo_4 (by decide +kernel), rfl⟩
theorem dX12_isFull_98 : Dc mX12_isFull 98 (.goto 4) 3 101 := ⟨zo_167 (w := 0) (x := 4) (by decide +kernel), rfl⟩
theorem dX12_isFull_101 : Dc mX12_isFull 101 (.iconst 0) 1 102 := ⟨zo_3 (by decide +kernel), rfl⟩
theorem dX12_isFull_102 : Dc mX12_isFull 102 (.ireturn) 1 103 := ⟨zo_172 (by decide +kernel), rfl⟩
theorem dX12_isFull_103 : Dc mX12_isFull 103 (.aload_n 0) 1 104 := ⟨zo_42 (by decide +kernel), rfl⟩
theorem dX12_isFull_104 : Dc mX12_isFull 104 (.iconst 4) 1 105 := ⟨zo_7 (by decide +kernel), rfl⟩
theorem dX12_isFull_105 : Dc mX12_isFull 105 (.invokevirtual 239) 3 108 := ⟨zo_182 (w := 0) (x := 239) (by decide +kernel), rfl⟩
theorem dX12_isFull_108 : Dc mX12_isFull 108 (.iconst 4) 1 109 := ⟨zo_7 (by decide +kernel), rfl⟩
theorem dX12_isFull_109 : Dc mX12_isFull 109 (.if_icmp .ne 7) 3 112 := ⟨zo_160 (w := 0) (x := 7) (by decide +kernel), rfl⟩
theorem dX12_isFull_112 : Dc mX12_isFull 112 (.iconst 1) 1 113 := ⟨zo_4 (by decide +kernel), rfl⟩
theorem dX12_isFull_113 : Dc mX12_isFull 113 (.goto 4) 3 116 := ⟨zo_167 (w := 0) (x := 4) (by decide +kernel), rfl⟩
theorem dX12_isFull_116 : Dc mX12_isFull 116 (.iconst 0) 1 117 := ⟨zo_3 (by decide +kernel), rfl⟩
theorem dX12_isFull_117 : Dc mX12_isFull 117 (.ireturn) 1 118 := ⟨zo_172 (by decide +kernel), rfl⟩
theorem dX12_isFull_118 : Dc mX12_isFull 118 (.aload_n 0) 1 119 := ⟨zo_42 (by decide +kernel), rfl⟩
theorem dX12_isFull_119 : Dc mX12_isFull 119 (.iconst 5) 1 120 := ⟨zo_8 (by decide +kernel), rfl⟩
theorem dX12_isFull_120 : Dc mX12_isFull 120 (.invokevirtual 239) 3 123 := ⟨zo_182 (w := 0) (x := 239) (by decide +kernel), rfl⟩
theorem dX12_isFull_123 : Dc mX12_isFull 123 (.iconst 3) 1 124 := ⟨zo_6 (by decide +kernel), rfl⟩
theorem dX12_isFull_124 : Dc mX12_isFull 124 (.if_icmp .ne 7) 3 127 := ⟨zo_160 (w := 0) (x := 7) (by decide +kernel), rfl⟩
theorem dX12_isFull_127 : Dc mX12_isFull 127 (.iconst 1) 1 128 := ⟨zo_4 (by decide +kernel), rfl⟩
theorem dX12_isFull_128 : Dc mX12_isFull 128 (.goto 4) 3 131 := ⟨zo_167 (w := 0) (x := 4) (by decide +kernel), rfl⟩
theorem dX12_isFull_131 : Dc mX12_isFull 131 (.iconst 0) 1 132 := ⟨zo_3 (by decide +kernel), rfl⟩
theorem dX12_isFull_132 : Dc mX12_isFull 132 (.ireturn) 1 133 := ⟨zo_172 (by decide +kernel), rfl⟩
theorem dX12_isFull_133 : Dc mX12_isFull 133 (.iconst 0) 1 134 := ⟨zo_3 (by decide +kernel), rfl⟩
theorem dX12_isFull_134 : Dc mX12_isFull 134 (.ireturn) 1 135 := ⟨zo_172 (by decide +kernel), rfl⟩
theorem dX12_line_0 : Dc mX12_line 0 (.aload_n 0) 1 1 := ⟨zo_42 (by decide +kernel), rfl⟩
theorem dX12_line_1 : Dc mX12_line 1 (.getfield 188) 3 4 := ⟨zo_180 (w := 0) (x := 188) (by decide +kernel), rfl⟩
theorem dX12_line_4 : Dc mX12_line 4 (.ifCond .ne 12) 3 7 := ⟨zo_154 (w := 0) (x := 12) (by decide +kernel), rfl⟩
theorem dX12_line_7 : Dc mX12_line 7 (.aload_n 0) 1 8 := ⟨zo_42 (by decide +kernel), rfl⟩
theorem dX12_line_8 : Dc mX12_line 8 (.getfield 198) 3 11 := ⟨zo_180 (w := 0) (x := 198) (by decide +kernel), rfl⟩
theorem dX12_line_11 : Dc mX12_line 11 (.bipush 9) 2 13 := ⟨zo_16 (w := 9) (by decide +kernel), rfl⟩
theorem dX12_line_13 : Dc mX12_line 13 (.if_icmp .le 9) 3 16 := ⟨zo_164 (w := 0) (x := 9) (by decide +kernel), rfl⟩
theorem dX12_line_16 : Dc mX12_line 16 (.aload_n 0) 1 17 := ⟨zo_42 (by decide +kernel), rfl⟩
theorem dX12_line_17 : Dc mX12_line 17 (.iconst 1) 1 18 := ⟨zo_4 (by decide +kernel), rfl⟩
theorem dX12_line_18 : Dc mX12_line 18 (.invokevirtual 232) 3 21 := ⟨zo_182 (w := 0) (x := 232) (by decide +kernel), rfl⟩
theorem dX12_line_21 : Dc mX12_line 21 (.return_) 1 22 := ⟨zo_177 (by decide +kernel), rfl⟩
theorem dX12_line_22 : Dc mX12_line 22 (.aload_n 0) 1 23 := ⟨zo_42 (by decide +kernel), rfl⟩
theorem dX12_line_23 : Dc mX12_line 23 (.getfield 198) 3 26 := ⟨zo_180 (w := 0) (x := 198) (by decide +kernel), rfl⟩
theorem dX12_line_26 : Dc mX12_line 26 (.istore_n 1) 1 27 := ⟨zo_60 (by decide +kernel), rfl⟩
theorem dX12_line_27 : Dc mX12_line 27 (.aload_n 0) 1 28 := ⟨zo_42 (by decide +kernel), rfl⟩
theorem dX12_line_28 : Dc mX12_line 28 (.iload_n 1) 1 29 := ⟨zo_27 (by decide +kernel), rfl⟩
theorem dX12_line_29 : Dc mX12_line 29 (.invokevirtual 247) 3 32 := ⟨zo_182 (w := 0) (x := 247) (by decide +kernel), rfl⟩
theorem dX12_line_32 : Dc mX12_line 32 (.ifCond .eq 11) 3 35 := ⟨zo_153 (w := 0) (x := 11) (by decide +kernel), rfl⟩
theorem dX12_line_35 : Dc mX12_line 35 (.aload_n 0) 1 36 := ⟨zo_42 (by decide +kernel), rfl⟩
theorem dX12_line_36 : Dc mX12_line 36 (.iconst 2) 1 37 := ⟨zo_5 (by decide +kernel), rfl⟩
theorem dX12_line_37 : Dc mX12_line 37 (.invokevirtual 232) 3 40 := ⟨zo_182 (w := 0) (x := 232) (by decide +kernel), rfl⟩
theorem dX12_line_40 : Dc mX12_line 40 (.goto 32) 3 43 := ⟨zo_167 (w := 0) (x := 32) (by decide +kernel), rfl⟩
theorem dX12_line_43 : Dc mX12_line 43 (.iload_n 1) 1 44 := ⟨zo_27 (by decide +kernel), rfl⟩
theorem dX12_line_44 : Dc mX12_line 44 (.bipush 6) 2 46 := ⟨zo_16 (w := 6) (by decide +kernel), rfl⟩
theorem dX12_line_46 : Dc mX12_line 46 (.if_icmp .lt 26) 3 49 := ⟨zo_161 (w := 0) (x := 26) (by decide +kernel), rfl⟩
theorem dX12_line_49 : Dc mX12_line 49 (.iload_n 1) 1 50 := ⟨zo_27 (by decide +kernel), rfl⟩
theorem dX12_line_50 : Dc mX12_line 50 (.bipush 8) 2 52 := ⟨zo_16 (w := 8) (by decide +kernel), rfl⟩
theorem dX12_line_52 : Dc mX12_line 52 (.if_icmp .gt 20) 3 55 := ⟨zo_163 (w := 0) (x := 20) (by decide +kernel), rfl⟩
theorem dX12_line_55 : Dc mX12_line 55 (.aload_n 0) 1 56 := ⟨zo_42 (by decide +kernel), rfl⟩
theorem dX12_line_56 : Dc mX12_line 56 (.getfield 250) 3 59 := ⟨zo_180 (w := 0) (x := 250) (by decide +kernel), rfl⟩
theorem dX12_line_59 : Dc mX12_line 59 (.iload_n 1) 1 60 := ⟨zo_27 (by decide +kernel), rfl⟩
theorem dX12_line_60 : Dc mX12_line 60 (.ishr) 1 61 := ⟨zo_122 (by decide +kernel), rfl⟩
theorem dX12_line_61 : Dc mX12_line 61 (.iconst 1) 1 62 := ⟨zo_4 (by decide +kernel), rfl⟩
theorem dX12_line_62 : Dc mX12_line 62 (.iand) 1 63 := ⟨zo_126 (by decide +kernel), rfl⟩
theorem dX12_line_63 : Dc mX12_line 63 (.iconst 1) 1 64 := ⟨zo_4 (by decide +kernel), rfl⟩
theorem dX12_line_64 : Dc mX12_line 64 (.if_icmp .ne 8) 3 67 := ⟨zo_160 (w := 0) (x := 8) (by decide +kernel), rfl⟩
theorem dX12_line_67 : Dc mX12_line 67 (.aload_n 0) 1 68 := ⟨zo_42 (by decide +kernel), rfl⟩
theorem dX12_line_68 : Dc mX12_line 68 (.iconst 3) 1 69 := ⟨zo_6 (by decide +kernel), rfl⟩
theorem dX12_line_69 : Dc mX12_line 69 (.invokevirtual 232) 3 72 := ⟨zo_182 (w := 0) (x := 232) (by decide +kernel), rfl⟩
theorem dX12_line_72 : Dc mX12_line 72 (.aload_n 0) 1 73 := ⟨zo_42 (by decide +kernel), rfl⟩
theorem dX12_line_73 : Dc mX12_line 73 (.getfield 223) 3 76 := ⟨zo_180 (w := 0) (x := 223) (by decide +kernel), rfl⟩
theorem dX12_line_76 : Dc mX12_line 76 (.ifCond .eq 4) 3 79 := ⟨zo_153 (w := 0) (x := 4) (by decide +kernel), rfl⟩
theorem dX12_line_79 : Dc mX12_line 79 (.return_) 1 80 := ⟨zo_177 (by decide +kernel), rfl⟩
theorem dX12_line_80 : Dc mX12_line 80 (.aload_n 0) 1 81 := ⟨zo_42 (by decide +kernel), rfl⟩
theorem dX12_line_81 : Dc mX12_line 81 (.dup) 1 82 := ⟨zo_89 (by decide +kernel), rfl⟩
theorem dX12_line_82 : Dc mX12_line 82 (.getfield 250) 3 85 := ⟨zo_180 (w := 0) (x := 250) (by decide +kernel), rfl⟩
theorem dX12_line_85 : Dc mX12_line 85 (.iconst 1) 1 86 := ⟨zo_4 (by decide +kernel), rfl⟩
theorem dX12_line_86 : Dc mX12_line 86 (.iload_n 1) 1 87 := ⟨zo_27 (by decide +kernel), rfl⟩
theorem dX12_line_87 : Dc mX12_line 87 (.ishl) 1 88 := ⟨zo_120 (by decide +kernel), rfl⟩
theorem dX12_line_88 : Dc mX12_line 88 (.ior) 1 89 := ⟨zo_128 (by decide +kernel), rfl⟩
theorem dX12_line_89 : Dc mX12_line 89 (.putfield 250) 3 92 := ⟨zo_181 (w := 0) (x := 250) (by decide +kernel), rfl⟩
theorem dX12_line_92 : Dc mX12_line 92 (.aload_n 0) 1 93 := ⟨zo_42 (by decide +kernel), rfl⟩
theorem dX12_line_93 : Dc mX12_line 93 (.invokevirtual 229) 3 96 := ⟨zo_182 (w := 0) (x := 229) (by decide +kernel), rfl⟩
theorem dX12_line_96 : Dc mX12_line 96 (.iload_n 1) 1 97 := ⟨zo_27 (by decide +kernel), rfl⟩
theorem dX12_line_97 : Dc mX12_line 97 (.tableswitch 391 0 8 #[51, 122, 193, 200, 214, 273, 342, 358, 375]) 51 148 := ⟨by decide +kernel, rfl⟩
theorem dX12_line_148 : Dc mX12_line 148 (.bipush 6) 2 150 := ⟨zo_16 (w := 6) (by decide +kernel), rfl⟩
theorem dX12_line_150 : Dc mX12_line 150 (.aload_n 0) 1 151 := ⟨zo_42 (by decide +kernel), rfl⟩
theorem dX12_line_151 : Dc mX12_line 151 (.iconst 0) 1 152 := ⟨zo_3 (by decide +kernel), rfl⟩
theorem dX12_line_152 : Dc mX12_line 152 (.invokevirtual 239) 3 155 := ⟨zo_182 (w := 0) (x := 239) (by decide +kernel), rfl⟩
theorem dX12_line_155 : Dc mX12_line 155 (.iadd) 1 156 := ⟨zo_96 (by decide +kernel), rfl⟩
theorem dX12_line_156 : Dc mX12_line 156 (.istore_n 2) 1 157 := ⟨zo_61 (by decide +kernel), rfl⟩
theorem dX12_line_157 : Dc mX12_line 157 (.aload_n 0) 1 158 := ⟨zo_42 (by decide +kernel), rfl⟩
theorem dX12_line_158 : Dc mX12_line 158 (.getfield 16) 3 161 := ⟨zo_180 (w := 0) (x := 16) (by decide +kernel), rfl⟩
theorem dX12_line_161 : Dc mX12_line 161 (.iload_n 2) 1 162 := ⟨zo_28 (by decide +kernel), rfl⟩
theorem dX12_line_162 : Dc mX12_line 162 (.aload_n 0) 1 163 := ⟨zo_42 (by decide +kernel), rfl⟩
theorem dX12_line_163 : Dc mX12_line 163 (.aload_n 0) 1 164 := ⟨zo_42 (by decide +kernel), rfl⟩
theorem dX12_line_164 : Dc mX12_line 164 (.getfield 16) 3 167 := ⟨zo_180 (w := 0) (x := 16) (by decide +kernel), rfl⟩
theorem dX12_line_167 : Dc mX12_line 167 (.bipush 6) 2 169 := ⟨zo_16 (w := 6) (by decide +kernel), rfl⟩
theorem dX12_line_169 : Dc mX12_line 169 (.aload_n 0) 1 170 := ⟨zo_42 (by decide +kernel), rfl⟩
theorem dX12_line_170 : Dc mX12_line 170 (.iconst 0) 1 171 := ⟨zo_3 (by decide +kernel), rfl⟩
theorem dX12_line_171 : Dc mX12_line 171 (.invokevirtual 239) 3 174 := ⟨zo_182 (w := 0) (x := 239) (by decide +kernel), rfl⟩
theorem dX12_line_174 : Dc mX12_line 174 (.invokevirtual 253) 3 177 := ⟨zo_182 (w := 0) (x := 253) (by decide +kernel), rfl⟩
theorem dX12_line_177 : Dc mX12_line 177 (.iastore) 1 178 := ⟨zo_79 (by decide +kernel), rfl⟩
theorem dX12_line_178 : Dc mX12_line 178 (.aload_n 0) 1 179 := ⟨zo_42 (by decide +kernel), rfl⟩
theorem dX12_line_179 : Dc mX12_line 179 (.getfield 19) 3 182 := ⟨zo_180 (w := 0) (x := 19) (by decide +kernel), rfl⟩
theorem dX12_line_182 : Dc mX12_line 182 (.iload_n 2) 1 183 := ⟨zo_28 (by decide +kernel), rfl⟩
theorem dX12_line_183 : Dc mX12_line 183 (.aload_n 0) 1 184 := ⟨zo_42 (by decide +kernel), rfl⟩
theorem dX12_line_184 : Dc mX12_line 184 (.iconst 0) 1 185 := ⟨zo_3 (by decide +kernel), rfl⟩
theorem dX12_line_185 : Dc mX12_line 185 (.bipush 99) 2 187 := ⟨zo_16 (w := 99) (by decide +kernel), rfl⟩
theorem dX12_line_187 : Dc mX12_line 187 (.invokevirtual 256) 3 190 := ⟨zo_182 (w := 1) (x := 0) (by decide +kernel), rfl⟩
theorem dX12_line_190 : Dc mX12_line 190 (.iastore) 1 191 := ⟨zo_79 (by decide +kernel), rfl⟩
theorem dX12_line_191 : Dc mX12_line 191 (.aload_n 0) 1 192 := ⟨zo_42 (by decide +kernel), rfl⟩
theorem dX12_line_192 : Dc mX12_line 192 (.getfield 22) 3 195 := ⟨zo_180 (w := 0) (x := 22) (by decide +kernel), rfl⟩
theorem dX12_line_195 : Dc mX12_line 195 (.iload_n 2) 1 196 := ⟨zo_28 (by decide +kernel), rfl⟩
theorem dX12_line_196 : Dc mX12_line 196 (.aload_n 0) 1 197 := ⟨zo_42 (by decide +kernel), rfl⟩
theorem dX12_line_197 : Dc mX12_line 197 (.iconst 2) 1 198 := ⟨zo_5 (by decide +kernel), rfl⟩
theorem dX12_line_198 : Dc mX12_line 198 (.bipush 6) 2 200 := ⟨zo_16 (w := 6) (by decide +kernel), rfl⟩
theorem dX12_line_200 : Dc mX12_line 200 (.invokevirtual 256) 3 203 := ⟨zo_182 (w := 1) (x := 0) (by decide +kernel), rfl⟩
theorem dX12_line_203 : Dc mX12_line 203 (.iastore) 1 204 := ⟨zo_79 (by decide +kernel), rfl⟩
theorem dX12_line_204 : Dc mX12_line 204 (.aload_n 0) 1 205 := ⟨zo_42 (by decide +kernel), rfl⟩
theorem dX12_line_205 : Dc mX12_line 205 (.iconst 0) 1 206 := ⟨zo_3 (by decide +kernel), rfl⟩
theorem dX12_line_206 : Dc mX12_line 206 (.aload_n 0) 1 207 := ⟨zo_42 (by decide +kernel), rfl⟩
theorem dX12_line_207 : Dc mX12_line 207 (.iconst 0) 1 208 := ⟨zo_3 (by decide +kernel), rfl⟩
theorem dX12_line_208 : Dc mX12_line 208 (.invokevirtual 239) 3 211 := ⟨zo_182 (w := 0) (x := 239) (by decide +kernel), rfl⟩
theorem dX12_line_211 : Dc mX12_line 211 (.iconst 1) 1 212 := ⟨zo_4 (by decide +kernel), rfl⟩
theorem dX12_line_212 : Dc mX12_line 212 (.iadd) 1 213 := ⟨zo_96 (by decide +kernel), rfl⟩
theorem dX12_line_213 : Dc mX12_line 213 (.invokevirtual 260) 3 216 := ⟨zo_182 (w := 1) (x := 4) (by decide +kernel), rfl⟩
theorem dX12_line_216 : Dc mX12_line 216 (.goto 276) 3 219 := ⟨zo_167 (w := 1) (x := 20) (by decide +kernel), rfl⟩
theorem dX12_line_219 : Dc mX12_line 219 (.bipush 8) 2 221 := ⟨zo_16 (w := 8) (by decide +kernel), rfl⟩
theorem dX12_line_221 : Dc mX12_line 221 (.aload_n 0) 1 222 := ⟨zo_42 (by decide +kernel), rfl⟩
theorem dX12_line_222 : Dc mX12_line 222 (.iconst 1) 1 223 := ⟨zo_4 (by decide +kernel), rfl⟩
theorem dX12_line_223 : Dc mX12_line 223 (.invokevirtual 239) 3 226 := ⟨zo_182 (w := 0) (x := 239) (by decide +kernel), rfl⟩
theorem dX12_line_226 : Dc mX12_line 226 (.iadd) 1 227 := ⟨zo_96 (by decide +kernel), rfl⟩
theorem dX12_line_227 : Dc mX12_line 227 (.istore_n 3) 1 228 := ⟨zo_62 (by decide +kernel), rfl⟩
theorem dX12_line_228 : Dc mX12_line 228 (.aload_n 0) 1 229 := ⟨zo_42 (by decide +kernel), rfl⟩
theorem dX12_line_229 : Dc mX12_line 229 (.getfield 25) 3 232 := ⟨zo_180 (w := 0) (x := 25) (by decide +kernel), rfl⟩
theorem dX12_line_232 : Dc mX12_line 232 (.iload_n 3) 1 233 := ⟨zo_29 (by decide +kernel), rfl⟩
theorem dX12_line_233 : Dc mX12_line 233 (.aload_n 0) 1 234 := ⟨zo_42 (by decide +kernel), rfl⟩
theorem dX12_line_234 : Dc mX12_line 234 (.aload_n 0) 1 235 := ⟨zo_42 (by decide +kernel), rfl⟩
theorem dX12_line_235 : Dc mX12_line 235 (.getfield 25) 3 238 := ⟨zo_180 (w := 0) (x := 25) (by decide +kernel), rfl⟩
theorem dX12_line_238 : Dc mX12_line 238 (.bipush 8) 2 240 := ⟨zo_16 (w := 8) (by decide +kernel), rfl⟩
theorem dX12_line_240 : Dc mX12_line 240 (.aload_n 0) 1 241 := ⟨zo_42 (by decide +kernel), rfl⟩
theorem dX12_line_241 : Dc mX12_line 241 (.iconst 1) 1 242 := ⟨zo_4 (by decide +kernel), rfl⟩
theorem dX12_line_242 : Dc mX12_line 242 (.invokevirtual 239) 3 245 := ⟨zo_182 (w := 0) (x := 239) (by decide +kernel), rfl⟩
theorem dX12_line_245 : Dc mX12_line 245 (.invokevirtual 253) 3 248 := ⟨zo_182 (w := 0) (x := 253) (by decide +kernel), rfl⟩
theorem dX12_line_248 : Dc mX12_line 248 (.iastore) 1 249 := ⟨zo_79 (by decide +kernel), rfl⟩
theorem dX12_line_249 : Dc mX12_line 249 (.aload_n 0) 1 250 := ⟨zo_42 (by decide +kernel), rfl⟩
theorem dX12_line_250 : Dc mX12_line 250 (.getfield 28) 3 253 := ⟨zo_180 (w := 0) (x := 28) (by decide +kernel), rfl⟩
theorem dX12_line_253 : Dc mX12_line 253 (.iload_n 3) 1 254 := ⟨zo_29 (by decide +kernel), rfl⟩
theorem dX12_line_254 : Dc mX12_line 254 (.aload_n 0) 1 255 := ⟨zo_42 (by decide +kernel), rfl⟩
theorem dX12_line_255 : Dc mX12_line 255 (.iconst 1) 1 256 := ⟨zo_4 (by decide +kernel), rfl⟩
theorem dX12_line_256 : Dc mX12_line 256 (.bipush 99) 2 258 := ⟨zo_16 (w := 99) (by decide +kernel), rfl⟩
theorem dX12_line_258 : Dc mX12_line 258 (.invokevirtual 256) 3 261 := ⟨zo_182 (w := 1) (x := 0) (by decide +kernel), rfl⟩
theorem dX12_line_261 : Dc mX12_line 261 (.iastore) 1 262 := ⟨zo_79 (by decide +kernel), rfl⟩
theorem dX12_line_262 : Dc mX12_line 262 (.aload_n 0) 1 263 := ⟨zo_42 (by decide +kernel), rfl⟩
theorem dX12_line_263 : Dc mX12_line 263 (.getfield 31) 3 266 := ⟨zo_180 (w := 0) (x := 31) (by decide +kernel), rfl⟩
theorem dX12_line_266 : Dc mX12_line 266 (.iload_n 3) 1 267 := ⟨zo_29 (by decide +kernel), rfl⟩
theorem dX12_line_267 : Dc mX12_line 267 (.aload_n 0) 1 268 := ⟨zo_42 (by decide +kernel), rfl⟩
theorem dX12_line_268 : Dc mX12_line 268 (.iconst 0) 1 269 := ⟨zo_3 (by decide +kernel), rfl⟩
theorem dX12_line_269 : Dc mX12_line 269 (.bipush 99) 2 271 := ⟨zo_16 (w := 99) (by decide +kernel), rfl⟩
theorem dX12_line_271 : Dc mX12_line 271 (.invokevirtual 256) 3 274 := ⟨zo_182 (w := 1) (x := 0) (by decide +kernel), rfl⟩
theorem dX12_line_274 : Dc mX12_line 274 (.iastore) 1 275 := ⟨zo_79 (by decide +kernel), rfl⟩
theorem dX12_line_275 : Dc mX12_line 275 (.aload_n 0) 1 276 := ⟨zo_42 (by decide +kernel), rfl⟩
theorem dX12_line_276 : Dc mX12_line 276 (.iconst 1) 1 277 := ⟨zo_4 (by decide +kernel), rfl⟩
theorem dX12_line_277 : Dc mX12_line 277 (.aload_n 0) 1 278 := ⟨zo_42 (by decide +kernel), rfl⟩
theorem dX12_line_278 : Dc mX12_line 278 (.iconst 1) 1 279 := ⟨zo_4 (by decide +kernel), rfl⟩
theorem dX12_line_279 : Dc mX12_line 279 (.invokevirtual 239) 3 282 := ⟨zo_182 (w := 0) (x := 239) (by decide +kernel), rfl⟩
theorem dX12_line_282 : Dc mX12_line 282 (.iconst 1) 1 283 := ⟨zo_4 (by decide +kernel), rfl⟩
theorem dX12_line_283 : Dc mX12_line 283 (.iadd) 1 284 := ⟨zo_96 (by decide +kernel), rfl⟩
theorem dX12_line_284 : Dc mX12_line 284 (.invokevirtual 260) 3 287 := ⟨zo_182 (w := 1) (x := 4) (by decide +kernel), rfl⟩
theorem dX12_line_287 : Dc mX12_line 287 (.goto 205) 3 290 := ⟨zo_167 (w := 0) (x := 205) (by decide +kernel), rfl⟩
theorem dX12_line_290 : Dc mX12_line 290 (.aload_n 0) 1 291 := ⟨zo_42 (by decide +kernel), rfl⟩
theorem dX12_line_291 : Dc mX12_line 291 (.invokevirtual 264) 3 294 := ⟨zo_182 (w := 1) (x := 8) (by decide +kernel), rfl⟩
theorem dX12_line_294 : Dc mX12_line 294 (.goto 198) 3 297 := ⟨zo_167 (w := 0) (x := 198) (by decide +kernel), rfl⟩
theorem dX12_line_297 : Dc mX12_line 297 (.aload_n 0) 1 298 := ⟨zo_42 (by decide +kernel), rfl⟩
theorem dX12_line_298 : Dc mX12_line 298 (.iconst 4) 1 299 := ⟨zo_7 (by decide +kernel), rfl⟩
theorem dX12_line_299 : Dc mX12_line 299 (.aload_n 0) 1 300 := ⟨zo_42 (by decide +kernel), rfl⟩
theorem dX12_line_300 : Dc mX12_line 300 (.iconst 3) 1 301 := ⟨zo_6 (by decide +kernel), rfl⟩
theorem dX12_line_301 : Dc mX12_line 301 (.invokevirtual 239) 3 304 := ⟨zo_182 (w := 0) (x := 239) (by decide +kernel), rfl⟩
theorem dX12_line_304 : Dc mX12_line 304 (.iadd) 1 305 := ⟨zo_96 (by decide +kernel), rfl⟩
theorem dX12_line_305 : Dc mX12_line 305 (.invokevirtual 267) 3 308 := ⟨zo_182 (w := 1) (x := 11) (by decide +kernel), rfl⟩
theorem dX12_line_308 : Dc mX12_line 308 (.goto 184) 3 311 := ⟨zo_167 (w := 0) (x := 184) (by decide +kernel), rfl⟩
theorem dX12_line_311 : Dc mX12_line 311 (.iconst 4) 1 312 := ⟨zo_7 (by decide +kernel), rfl⟩
theorem dX12_line_312 : Dc mX12_line 312 (.aload_n 0) 1 313 := ⟨zo_42 (by decide +kernel), rfl⟩
theorem dX12_line_313 : Dc mX12_line 313 (.iconst 4) 1 314 := ⟨zo_7 (by decide +kernel), rfl⟩
theorem dX12_line_314 : Dc mX12_line 314 (.invokevirtual 239) 3 317 := ⟨zo_182 (w := 0) (x := 239) (by decide +kernel), rfl⟩
theorem dX12_line_317 : Dc mX12_line 317 (.iadd) 1 318 := ⟨zo_96 (by decide +kernel), rfl⟩
theorem dX12_line_318 : Dc mX12_line 318 (.istore 4) 2 320 := ⟨zo_54 (by decide +kernel), rfl⟩
theorem dX12_line_320 : Dc mX12_line 320 (.aload_n 0) 1 321 := ⟨zo_42 (by decide +kernel), rfl⟩
theorem dX12_line_321 : Dc mX12_line 321 (.getfield 49) 3 324 := ⟨zo_180 (w := 0) (x := 49) (by decide +kernel), rfl⟩
theorem dX12_line_324 : Dc mX12_line 324 (.iload 4) 2 326 := ⟨zo_21 (by decide +kernel), rfl⟩
theorem dX12_line_326 : Dc mX12_line 326 (.aload_n 0) 1 327 := ⟨zo_42 (by decide +kernel), rfl⟩
theorem dX12_line_327 : Dc mX12_line 327 (.aload_n 0) 1 328 := ⟨zo_42 (by decide +kernel), rfl⟩
theorem dX12_line_328 : Dc mX12_line 328 (.getfield 49) 3 331 := ⟨zo_180 (w := 0) (x := 49) (by decide +kernel), rfl⟩
theorem dX12_line_331 : Dc mX12_line 331 (.iconst 4) 1 332 := ⟨zo_7 (by decide +kernel), rfl⟩
theorem dX12_line_332 : Dc mX12_line 332 (.aload_n 0) 1 333 := ⟨zo_42 (by decide +kernel), rfl⟩
theorem dX12_line_333 : Dc mX12_line 333 (.iconst 4) 1 334 := ⟨zo_7 (by decide +kernel), rfl⟩
theorem dX12_line_334 : Dc mX12_line 334 (.invokevirtual 239) 3 337 := ⟨zo_182 (w := 0) (x := 239) (by decide +kernel), rfl⟩
theorem dX12_line_337 : Dc mX12_line 337 (.invokevirtual 253) 3 340 := ⟨zo_182 (w := 0) (x := 253) (by decide +kernel), rfl⟩
theorem dX12_line_340 : Dc mX12_line 340 (.iastore) 1 341 := ⟨zo_79 (by decide +kernel), rfl⟩
theorem dX12_line_341 : Dc mX12_line 341 (.aload_n 0) 1 342 := ⟨zo_42 (by decide +kernel), rfl⟩
theorem dX12_line_342 : Dc mX12_line 342 (.getfield 52) 3 345 := ⟨zo_180 (w := 0) (x := 52) (by decide +kernel), rfl⟩
theorem dX12_line_345 : Dc mX12_line 345 (.iload 4) 2 347 := ⟨zo_21 (by decide +kernel), rfl⟩
theorem dX12_line_347 : Dc mX12_line 347 (.aload_n 0) 1 348 := ⟨zo_42 (by decide +kernel), rfl⟩
theorem dX12_line_348 : Dc mX12_line 348 (.iconst 0) 1 349 := ⟨zo_3 (by decide +kernel), rfl⟩
theorem dX12_line_349 : Dc mX12_line 349 (.bipush 63) 2 351 := ⟨zo_16 (w := 63) (by decide +kernel), rfl⟩
theorem dX12_line_351 : Dc mX12_line 351 (.invokevirtual 256) 3 354 := ⟨zo_182 (w := 1) (x := 0) (by decide +kernel), rfl⟩
theorem dX12_line_354 : Dc mX12_line 354 (.iastore) 1 355 := ⟨zo_79 (by decide +kernel), rfl⟩
theorem dX12_line_355 : Dc mX12_line 355 (.aload_n 0) 1 356 := ⟨zo_42 (by decide +kernel), rfl⟩
theorem dX12_line_356 : Dc mX12_line 356 (.iconst 4) 1 357 := ⟨zo_7 (by decide +kernel), rfl⟩
theorem dX12_line_357 : Dc mX12_line 357 (.aload_n 0) 1 358 := ⟨zo_42 (by decide +kernel), rfl⟩
theorem dX12_line_358 : Dc mX12_line 358 (.iconst 4) 1 359 := ⟨zo_7 (by decide +kernel), rfl⟩
theorem dX12_line_359 : Dc mX12_line 359 (.invokevirtual 239) 3 362 := ⟨zo_182 (w := 0) (x := 239) (by decide +kernel), rfl⟩
theorem dX12_line_362 : Dc mX12_line 362 (.iconst 1) 1 363 := ⟨zo_4 (by decide +kernel), rfl⟩
theorem dX12_line_363 : Dc mX12_line 363 (.iadd) 1 364 := ⟨zo_96 (by decide +kernel), rfl⟩
theorem dX12_line_364 : Dc mX12_line 364 (.invokevirtual 260) 3 367 := ⟨zo_182 (w := 1) (x := 4) (by decide +kernel), rfl⟩
theorem dX12_line_367 : Dc mX12_line 367 (.goto 125) 3 370 := ⟨zo_167 (w := 0) (x := 125) (by decide +kernel), rfl⟩
theorem dX12_line_370 : Dc mX12_line 370 (.iconst 3) 1 371 := ⟨zo_6 (by decide +kernel), rfl⟩
theorem dX12_line_371 : Dc mX12_line 371 (.aload_n 0) 1 372 := ⟨zo_42 (by decide +kernel), rfl⟩
theorem dX12_line_372 : Dc mX12_line 372 (.iconst 5) 1 373 := ⟨zo_8 (by decide +kernel), rfl⟩
theorem dX12_line_373 : Dc mX12_line 373 (.invokevirtual 239) 3 376 := ⟨zo_182 (w := 0) (x := 239) (by decide +kernel), rfl⟩
theorem dX12_line_376 : Dc mX12_line 376 (.iadd) 1 377 := ⟨zo_96 (by decide +kernel), rfl⟩
theorem dX12_line_377 : Dc mX12_line 377 (.istore 5) 2 379 := ⟨zo_54 (by decide +kernel), rfl⟩
theorem dX12_line_379 : Dc mX12_line 379 (.aload_n 0) 1 380 := ⟨zo_42 (by decide +kernel), rfl⟩
theorem dX12_line_380 : Dc mX12_line 380 (.getfield 55) 3 383 := ⟨zo_180 (w := 0) (x := 55) (by decide +kernel), rfl⟩
theorem dX12_line_383 : Dc mX12_line 383 (.iload 5) 2 385 := ⟨zo_21 (by decide +kernel), rfl⟩
theorem dX12_line_385 : Dc mX12_line 385 (.aload_n 0) 1 386 := ⟨zo_42 (by decide +kernel), rfl⟩
theorem dX12_line_386 : Dc mX12_line 386 (.iconst 0) 1 387 := ⟨zo_3 (by decide +kernel), rfl⟩
theorem dX12_line_387 : Dc mX12_line 387 (.bipush 99) 2 389 := ⟨zo_16 (w := 99) (by decide +kernel), rfl⟩
theorem dX12_line_389 : Dc mX12_line 389 (.invokevirtual 256) 3 392 := ⟨zo_182 (w := 1) (x := 0) (by decide +kernel), rfl⟩
theorem dX12_line_392 : Dc mX12_line 392 (.iastore) 1 393 := ⟨zo_79 (by decide +kernel), rfl⟩
theorem dX12_line_393 : Dc mX12_line 393 (.aload_n 0) 1 394 := ⟨zo_42 (by decide +kernel), rfl⟩
theorem dX12_line_394 : Dc mX12_line 394 (.getfield 58) 3 397 := ⟨zo_180 (w := 0) (x := 58) (by decide +kernel), rfl⟩
theorem dX12_line_397 : Dc mX12_line 397 (.iload 5) 2 399 := ⟨zo_21 (by decide +kernel), rfl⟩
theorem dX12_line_399 : Dc mX12_line 399 (.aload_n 0) 1 400 := ⟨zo_42 (by decide +kernel), rfl⟩
theorem dX12_line_400 : Dc mX12_line 400 (.aload_n 0) 1 401 := ⟨zo_42 (by decide +kernel), rfl⟩
theorem dX12_line_401 : Dc mX12_line 401 (.getfield 223) 3 404 := ⟨zo_180 (w := 0) (x := 223) (by decide +kernel), rfl⟩
theorem dX12_line_404 : Dc mX12_line 404 (.ifCond .ne 13) 3 407 := ⟨zo_154 (w := 0) (x := 13) (by decide +kernel), rfl⟩
theorem dX12_line_407 : Dc mX12_line 407 (.aload_n 0) 1 408 := ⟨zo_42 (by decide +kernel), rfl⟩
theorem dX12_line_408 : Dc mX12_line 408 (.getfield 55) 3 411 := ⟨zo_180 (w := 0) (x := 55) (by decide +kernel), rfl⟩
theorem dX12_line_411 : Dc mX12_line 411 (.iload 5) 2 413 := ⟨zo_21 (by decide +kernel), rfl⟩
theorem dX12_line_413 : Dc mX12_line 413 (.iaload) 1 414 := ⟨zo_46 (by decide +kernel), rfl⟩
theorem dX12_line_414 : Dc mX12_line 414 (.goto 4) 3 417 := ⟨zo_167 (w := 0) (x := 4) (by decide +kernel), rfl⟩
theorem dX12_line_417 : Dc mX12_line 417 (.iconst 0) 1 418 := ⟨zo_3 (by decide +kernel), rfl⟩
theorem dX12_line_418 : Dc mX12_line 418 (.bipush 99) 2 420 := ⟨zo_16 (w := 99) (by decide +kernel), rfl⟩
theorem dX12_line_420 : Dc mX12_line 420 (.invokevirtual 256) 3 423 := ⟨zo_182 (w := 1) (x := 0) (by decide +kernel), rfl⟩
theorem dX12_line_423 : Dc mX12_line 423 (.iastore) 1 424 := ⟨zo_79 (by decide +kernel), rfl⟩
theorem dX12_line_424 : Dc mX12_line 424 (.aload_n 0) 1 425 := ⟨zo_42 (by decide +kernel), rfl⟩
theorem dX12_line_425 : Dc mX12_line 425 (.iconst 5) 1 426 := ⟨zo_8 (by decide +kernel), rfl⟩
theorem dX12_line_426 : Dc mX12_line 426 (.aload_n 0) 1 427 := ⟨zo_42 (by decide +kernel), rfl⟩
theorem dX12_line_427 : Dc mX12_line 427 (.iconst 5) 1 428 := ⟨zo_8 (by decide +kernel), rfl⟩
theorem dX12_line_428 : Dc mX12_line 428 (.invokevirtual 239) 3 431 := ⟨zo_182 (w := 0) (x := 239) (by decide +kernel), rfl⟩
theorem dX12_line_431 : Dc mX12_line 431 (.iconst 1) 1 432 := ⟨zo_4 (by decide +kernel), rfl⟩
theorem dX12_line_432 : Dc mX12_line 432 (.iadd) 1 433 := ⟨zo_96 (by decide +kernel), rfl⟩
theorem dX12_line_433 : Dc mX12_line 433 (.invokevirtual 260) 3 436 := ⟨zo_182 (w := 1) (x := 4) (by decide +kernel), rfl⟩
theorem dX12_line_436 : Dc mX12_line 436 (.goto 56) 3 439 := ⟨zo_167 (w := 0) (x := 56) (by decide +kernel), rfl⟩
theorem dX12_line_439 : Dc mX12_line 439 (.aload_n 0) 1 440 := ⟨zo_42 (by decide +kernel), rfl⟩
theorem dX12_line_440 : Dc mX12_line 440 (.bipush 6) 2 442 := ⟨zo_16 (w := 6) (by decide +kernel), rfl⟩
theorem dX12_line_442 : Dc mX12_line 442 (.aload_n 0) 1 443 := ⟨zo_42 (by decide +kernel), rfl⟩
theorem dX12_line_443 : Dc mX12_line 443 (.iconst 0) 1 444 := ⟨zo_3 (by decide +kernel), rfl⟩
theorem dX12_line_444 : Dc mX12_line 444 (.bipush 100) 2 446 := ⟨zo_16 (w := 100) (by decide +kernel), rfl⟩
theorem dX12_line_446 : Dc mX12_line 446 (.invokevirtual 256) 3 449 := ⟨zo_182 (w := 1) (x := 0) (by decide +kernel), rfl⟩
theorem dX12_line_449 : Dc mX12_line 449 (.invokevirtual 260) 3 452 := ⟨zo_182 (w := 1) (x := 4) (by decide +kernel), rfl⟩
theorem dX12_line_452 : Dc mX12_line 452 (.goto 40) 3 455 := ⟨zo_167 (w := 0) (x := 40) (by decide +kernel), rfl⟩
theorem dX12_line_455 : Dc mX12_line 455 (.aload_n 0) 1 456 := ⟨zo_42 (by decide +kernel), rfl⟩
theorem dX12_line_456 : Dc mX12_line 456 (.bipush 7) 2 458 := ⟨zo_16 (w := 7) (by decide +kernel), rfl⟩
theorem dX12_line_458 : Dc mX12_line 458 (.aload_n 0) 1 459 := ⟨zo_42 (by decide +kernel), rfl⟩
theorem dX12_line_459 : Dc mX12_line 459 (.iconst 0) 1 460 := ⟨zo_3 (by decide +kernel), rfl⟩
theorem dX12_line_460 : Dc mX12_line 460 (.sipush 999) 3 463 := ⟨zo_17 (w := 3) (x := 231) (by decide +kernel), rfl⟩
theorem dX12_line_463 : Dc mX12_line 463 (.invokevirtual 256) 3 466 := ⟨zo_182 (w := 1) (x := 0) (by decide +kernel), rfl⟩
theorem dX12_line_466 : Dc mX12_line 466 (.invokevirtual 260) 3 469 := ⟨zo_182 (w := 1) (x := 4) (by decide +kernel), rfl⟩
theorem dX12_line_469 : Dc mX12_line 469 (.goto 23) 3 472 := ⟨zo_167 (w := 0) (x := 23) (by decide +kernel), rfl⟩
theorem dX12_line_472 : Dc mX12_line 472 (.aload_n 0) 1 473 := ⟨zo_42 (by decide +kernel), rfl⟩
theorem dX12_line_473 : Dc mX12_line 473 (.bipush 8) 2 475 := ⟨zo_16 (w := 8) (by decide +kernel), rfl⟩
theorem dX12_line_475 : Dc mX12_line 475 (.aload_n 0) 1 476 := ⟨zo_42 (by decide +kernel), rfl⟩
theorem dX12_line_476 : Dc mX12_line 476 (.iconst 0) 1 477 := ⟨zo_3 (by decide +kernel), rfl⟩
theorem dX12_line_477 : Dc mX12_line 477 (.ldc 207) 2 479 := ⟨zo_18 (by decide +kernel), rfl⟩
theorem dX12_line_479 : Dc mX12_line 479 (.invokevirtual 256) 3 482 := ⟨zo_182 (w := 1) (x := 0) (by decide +kernel), rfl⟩
theorem dX12_line_482 : Dc mX12_line 482 (.invokevirtual 260) 3 485 := ⟨zo_182 (w := 1) (x := 4) (by decide +kernel), rfl⟩
theorem dX12_line_485 : Dc mX12_line 485 (.goto 7) 3 488 := ⟨zo_167 (w := 0) (x := 7) (by decide +kernel), rfl⟩
theorem dX12_line_488 : Dc mX12_line 488 (.aload_n 0) 1 489 := ⟨zo_42 (by decide +kernel), rfl⟩
theorem dX12_line_489 : Dc mX12_line 489 (.invokevirtual 270) 3 492 := ⟨zo_182 (w := 1) (x := 14) (by decide +kernel), rfl⟩
theorem dX12_line_492 : Dc mX12_line 492 (.aload_n 0) 1 493 := ⟨zo_42 (by decide +kernel), rfl⟩
theorem dX12_line_493 : Dc mX12_line 493 (.getfield 223) 3 496 := ⟨zo_180 (w := 0) (x := 223) (by decide +kernel), rfl⟩
theorem dX12_line_496 : Dc mX12_line 496 (.ifCond .eq 4) 3 499 := ⟨zo_153 (w := 0) (x := 4) (by decide +kernel), rfl⟩
theorem dX12_line_499 : Dc mX12_line 499 (.return_) 1 500 := ⟨zo_177 (by decide +kernel), rfl⟩
theorem dX12_line_500 : Dc mX12_line 500 (.aload_n 0) 1 501 := ⟨zo_42 (by decide +kernel), rfl⟩
theorem dX12_line_501 : Dc mX12_line 501 (.bipush 59) 2 503 := ⟨zo_16 (w := 59) (by decide +kernel), rfl⟩
theorem dX12_line_503 : Dc mX12_line 503 (.invokevirtual 273) 3 506 := ⟨zo_182 (w := 1) (x := 17) (by decide +kernel), rfl⟩
theorem dX12_line_506 : Dc mX12_line 506 (.ifCond .ne 11) 3 509 := ⟨zo_154 (w := 0) (x := 11) (by decide +kernel), rfl⟩
theorem dX12_line_509 : Dc mX12_line 509 (.aload_n 0) 1 510 := ⟨zo_42 (by decide +kernel), rfl⟩
theorem dX12_line_510 : Dc mX12_line 510 (.iconst 1) 1 511 := ⟨zo_4 (by decide +kernel), rfl⟩
theorem dX12_line_511 : Dc mX12_line 511 (.invokevirtual 232) 3 514 := ⟨zo_182 (w := 0) (x := 232) (by decide +kernel), rfl⟩
theorem dX12_line_514 : Dc mX12_line 514 (.goto 7) 3 517 := ⟨zo_167 (w := 0) (x := 7) (by decide +kernel), rfl⟩
theorem dX12_line_517 : Dc mX12_line 517 (.aload_n 0) 1 518 := ⟨zo_42 (by decide +kernel), rfl⟩
theorem dX12_line_518 : Dc mX12_line 518 (.invokevirtual 229) 3 521 := ⟨zo_182 (w := 0) (x := 229) (by decide +kernel), rfl⟩
theorem dX12_line_521 : Dc mX12_line 521 (.aload_n 0) 1 522 := ⟨zo_42 (by decide +kernel), rfl⟩
theorem dX12_line_522 : Dc mX12_line 522 (.dup) 1 523 := ⟨zo_89 (by decide +kernel), rfl⟩
theorem dX12_line_523 : Dc mX12_line 523 (.getfield 276) 3 526 := ⟨zo_180 (w := 1) (x := 20) (by decide +kernel), rfl⟩
theorem dX12_line_526 : Dc mX12_line 526 (.iconst 1) 1 527 := ⟨zo_4 (by decide +kernel), rfl⟩
theorem dX12_line_527 : Dc mX12_line 527 (.iadd) 1 528 := ⟨zo_96 (by decide +kernel), rfl⟩
theorem dX12_line_528 : Dc mX12_line 528 (.putfield 276) 3 531 := ⟨zo_181 (w := 1) (x := 20) (by decide +kernel), rfl⟩
theorem dX12_line_531 : Dc mX12_line 531 (.return_) 1 532 := ⟨zo_177 (by decide +kernel), rfl⟩
theorem dX12_hasLine_0 : Dc mX12_hasLine 0 (.aload_n 0) 1 1 := ⟨zo_42 (by decide +kernel), rfl⟩
theorem dX12_hasLine_1 : Dc mX12_hasLine 1 (.aload_n 0) 1 2 := ⟨zo_42 (by decide +kernel), rfl⟩
theorem dX12_hasLine_2 : Dc mX12_hasLine 2 (.getfield 25) 3 5 := ⟨zo_180 (w := 0) (x := 25) (by decide +kernel), rfl⟩
theorem dX12_hasLine_5 : Dc mX12_hasLine 5 (.bipush 8) 2 7 := ⟨zo_16 (w := 8) (by decide +kernel), rfl⟩
theorem dX12_hasLine_7 : Dc mX12_hasLine 7 (.aload_n 0) 1 8 := ⟨zo_42 (by decide +kernel), rfl⟩
theorem dX12_hasLine_8 : Dc mX12_hasLine 8 (.iconst 1) 1 9 := ⟨zo_4 (by decide +kernel), rfl⟩
theorem dX12_hasLine_9 : Dc mX12_hasLine 9 (.invokevirtual 239) 3 12 := ⟨zo_182 (w := 0) (x := 239) (by decide +kernel), rfl⟩
theorem dX12_hasLine_12 : Dc mX12_hasLine 12 (.invokevirtual 243) 3 15 := ⟨zo_182 (w := 0) (x := 243) (by decide +kernel), rfl⟩
theorem dX12_hasLine_15 : Dc mX12_hasLine 15 (.istore_n 1) 1 16 := ⟨zo_60 (by decide +kernel), rfl⟩
theorem dX12_hasLine_16 : Dc mX12_hasLine 16 (.aload_n 0) 1 17 := ⟨zo_42 (by decide +kernel), rfl⟩
theorem dX12_hasLine_17 : Dc mX12_hasLine 17 (.invokevirtual 279) 3 20 := ⟨zo_182 (w := 1) (x := 23) (by decide +kernel), rfl⟩
theorem dX12_hasLine_20 : Dc mX12_hasLine 20 (.aload_n 0) 1 21 := ⟨zo_42 (by decide +kernel), rfl⟩
theorem dX12_hasLine_21 : Dc mX12_hasLine 21 (.invokevirtual 282) 3 24 := ⟨zo_182 (w := 1) (x := 26) (by decide +kernel), rfl⟩
theorem dX12_hasLine_24 : Dc mX12_hasLine 24 (.istore_n 2) 1 25 := ⟨zo_61 (by decide +kernel), rfl⟩
theorem dX12_hasLine_25 : Dc mX12_hasLine 25 (.bipush 48) 2 27 := ⟨zo_16 (w := 48) (by decide +kernel), rfl⟩
theorem dX12_hasLine_27 : Dc mX12_hasLine 27 (.bipush 6) 2 29 := ⟨zo_16 (w := 6) (by decide +kernel), rfl⟩
theorem dX12_hasLine_29 : Dc mX12_hasLine 29 (.iload_n 1) 1 30 := ⟨zo_27 (by decide +kernel), rfl⟩
theorem dX12_hasLine_30 : Dc mX12_hasLine 30 (.imul) 1 31 := ⟨zo_104 (by decide +kernel), rfl⟩
theorem dX12_hasLine_31 : Dc mX12_hasLine 31 (.iadd) 1 32 := ⟨zo_96 (by decide +kernel), rfl⟩
theorem dX12_hasLine_32 : Dc mX12_hasLine 32 (.iload_n 2) 1 33 := ⟨zo_28 (by decide +kernel), rfl⟩
theorem dX12_hasLine_33 : Dc mX12_hasLine 33 (.iadd) 1 34 := ⟨zo_96 (by decide +kernel), rfl⟩
theorem dX12_hasLine_34 : Dc mX12_hasLine 34 (.istore_n 3) 1 35 := ⟨zo_62 (by decide +kernel), rfl⟩
theorem dX12_hasLine_35 : Dc mX12_hasLine 35 (.aload_n 0) 1 36 := ⟨zo_42 (by decide +kernel), rfl⟩
theorem dX12_hasLine_36 : Dc mX12_hasLine 36 (.getfield 223) 3 39 := ⟨zo_180 (w := 0) (x := 223) (by decide +kernel), rfl⟩
theorem dX12_hasLine_39 : Dc mX12_hasLine 39 (.ifCond .ne 18) 3 42 := ⟨zo_154 (w := 0) (x := 18) (by decide +kernel), rfl⟩
theorem dX12_hasLine_42 : Dc mX12_hasLine 42 (.aload_n 0) 1 43 := ⟨zo_42 (by decide +kernel), rfl⟩
theorem dX12_hasLine_43 : Dc mX12_hasLine 43 (.getfield 34) 3 46 := ⟨zo_180 (w := 0) (x := 34) (by decide +kernel), rfl⟩
theorem dX12_hasLine_46 : Dc mX12_hasLine 46 (.iload_n 3) 1 47 := ⟨zo_29 (by decide +kernel), rfl⟩
theorem dX12_hasLine_47 : Dc mX12_hasLine 47 (.iaload) 1 48 := ⟨zo_46 (by decide +kernel), rfl⟩
theorem dX12_hasLine_48 : Dc mX12_hasLine 48 (.iconst (-1)) 1 49 := ⟨zo_2 (by decide +kernel), rfl⟩
theorem dX12_hasLine_49 : Dc mX12_hasLine 49 (.if_icmp .eq 8) 3 52 := ⟨zo_159 (w := 0) (x := 8) (by decide +kernel), rfl⟩
theorem dX12_hasLine_52 : Dc mX12_hasLine 52 (.aload_n 0) 1 53 := ⟨zo_42 (by decide +kernel), rfl⟩
theorem dX12_hasLine_53 : Dc mX12_hasLine 53 (.iconst 3) 1 54 := ⟨zo_6 (by decide +kernel), rfl⟩
theorem dX12_hasLine_54 : Dc mX12_hasLine 54 (.invokevirtual 232) 3 57 := ⟨zo_182 (w := 0) (x := 232) (by decide +kernel), rfl⟩
theorem dX12_hasLine_57 : Dc mX12_hasLine 57 (.aload_n 0) 1 58 := ⟨zo_42 (by decide +kernel), rfl⟩
theorem dX12_hasLine_58 : Dc mX12_hasLine 58 (.invokevirtual 279) 3 61 := ⟨zo_182 (w := 1) (x := 23) (by decide +kernel), rfl⟩
theorem dX12_hasLine_61 : Dc mX12_hasLine 61 (.aload_n 0) 1 62 := ⟨zo_42 (by decide +kernel), rfl⟩
theorem dX12_hasLine_62 : Dc mX12_hasLine 62 (.iconst 0) 1 63 := ⟨zo_3 (by decide +kernel), rfl⟩
theorem dX12_hasLine_63 : Dc mX12_hasLine 63 (.aload_n 0) 1 64 := ⟨zo_42 (by decide +kernel), rfl⟩
theorem dX12_hasLine_64 : Dc mX12_hasLine 64 (.getfield 223) 3 67 := ⟨zo_180 (w := 0) (x := 223) (by decide +kernel), rfl⟩
theorem dX12_hasLine_67 : Dc mX12_hasLine 67 (.ifCond .ne 17) 3 70 := ⟨zo_154 (w := 0) (x := 17) (by decide +kernel), rfl⟩
theorem dX12_hasLine_70 : Dc mX12_hasLine 70 (.aload_n 0) 1 71 := ⟨zo_42 (by decide +kernel), rfl⟩
theorem dX12_hasLine_71 : Dc mX12_hasLine 71 (.getfield 22) 3 74 := ⟨zo_180 (w := 0) (x := 22) (by decide +kernel), rfl⟩
theorem dX12_hasLine_74 : Dc mX12_hasLine 74 (.bipush 6) 2 76 := ⟨zo_16 (w := 6) (by decide +kernel), rfl⟩
theorem dX12_hasLine_76 : Dc mX12_hasLine 76 (.iload_n 2) 1 77 := ⟨zo_28 (by decide +kernel), rfl⟩
theorem dX12_hasLine_77 : Dc mX12_hasLine 77 (.iadd) 1 78 := ⟨zo_96 (by decide +kernel), rfl⟩
theorem dX12_hasLine_78 : Dc mX12_hasLine 78 (.iaload) 1 79 := ⟨zo_46 (by decide +kernel), rfl⟩
theorem dX12_hasLine_79 : Dc mX12_hasLine 79 (.iconst 1) 1 80 := ⟨zo_4 (by decide +kernel), rfl⟩
theorem dX12_hasLine_80 : Dc mX12_hasLine 80 (.isub) 1 81 := ⟨zo_100 (by decide +kernel), rfl⟩
theorem dX12_hasLine_81 : Dc mX12_hasLine 81 (.goto 4) 3 84 := ⟨zo_167 (w := 0) (x := 4) (by decide +kernel), rfl⟩
theorem dX12_hasLine_84 : Dc mX12_hasLine 84 (.iconst 0) 1 85 := ⟨zo_3 (by decide +kernel), rfl⟩
theorem dX12_hasLine_85 : Dc mX12_hasLine 85 (.invokevirtual 256) 3 88 := ⟨zo_182 (w := 1) (x := 0) (by decide +kernel), rfl⟩
theorem dX12_hasLine_88 : Dc mX12_hasLine 88 (.istore 4) 2 90 := ⟨zo_54 (by decide +kernel), rfl⟩
theorem dX12_hasLine_90 : Dc mX12_hasLine 90 (.aload_n 0) 1 91 := ⟨zo_42 (by decide +kernel), rfl⟩
theorem dX12_hasLine_91 : Dc mX12_hasLine 91 (.getfield 223) 3 94 := ⟨zo_180 (w := 0) (x := 223) (by decide +kernel), rfl⟩
theorem dX12_hasLine_94 : Dc mX12_hasLine 94 (.ifCond .eq 4) 3 97 := ⟨zo_153 (w := 0) (x := 4) (by decide +kernel), rfl⟩
theorem dX12_hasLine_97 : Dc mX12_hasLine 97 (.return_) 1 98 := ⟨zo_177 (by decide +kernel), rfl⟩
theorem dX12_hasLine_98 : Dc mX12_hasLine 98 (.aload_n 0) 1 99 := ⟨zo_42 (by decide +kernel), rfl⟩
theorem dX12_hasLine_99 : Dc mX12_hasLine 99 (.getfield 34) 3 102 := ⟨zo_180 (w := 0) (x := 34) (by decide +kernel), rfl⟩
theorem dX12_hasLine_102 : Dc mX12_hasLine 102 (.iload_n 3) 1 103 := ⟨zo_29 (by decide +kernel), rfl⟩
theorem dX12_hasLine_103 : Dc mX12_hasLine 103 (.iload 4) 2 105 := ⟨zo_21 (by decide +kernel), rfl⟩
theorem dX12_hasLine_105 : Dc mX12_hasLine 105 (.iastore) 1 106 := ⟨zo_79 (by decide +kernel), rfl⟩
theorem dX12_hasLine_106 : Dc mX12_hasLine 106 (.aload_n 0) 1 107 := ⟨zo_42 (by decide +kernel), rfl⟩
theorem dX12_hasLine_107 : Dc mX12_hasLine 107 (.iconst 2) 1 108 := ⟨zo_5 (by decide +kernel), rfl⟩
theorem dX12_hasLine_108 : Dc mX12_hasLine 108 (.aload_n 0) 1 109 := ⟨zo_42 (by decide +kernel), rfl⟩
theorem dX12_hasLine_109 : Dc mX12_hasLine 109 (.iconst 2) 1 110 := ⟨zo_5 (by decide +kernel), rfl⟩
theorem dX12_hasLine_110 : Dc mX12_hasLine 110 (.invokevirtual 239) 3 113 := ⟨zo_182 (w := 0) (x := 239) (by decide +kernel), rfl⟩
theorem dX12_hasLine_113 : Dc mX12_hasLine 113 (.iconst 1) 1 114 := ⟨zo_4 (by decide +kernel), rfl⟩
theorem dX12_hasLine_114 : Dc mX12_hasLine 114 (.iadd) 1 115 := ⟨zo_96 (by decide +kernel), rfl⟩
theorem dX12_hasLine_115 : Dc mX12_hasLine 115 (.invokevirtual 260) 3 118 := ⟨zo_182 (w := 1) (x := 4) (by decide +kernel), rfl⟩
theorem dX12_hasLine_118 : Dc mX12_hasLine 118 (.return_) 1 119 := ⟨zo_177 (by decide +kernel), rfl⟩
theorem dX12_partyLine_0 : Dc mX12_partyLine 0 (.aload_n 0) 1 1 := ⟨zo_42 (by decide +kernel), rfl⟩
theorem dX12_partyLine_1 : Dc mX12_partyLine 1 (.getfield 37) 3 4 := ⟨zo_180 (w := 0) (x := 37) (by decide +kernel), rfl⟩
theorem dX12_partyLine_4 : Dc mX12_partyLine 4 (.iload_n 1) 1 5 := ⟨zo_27 (by decide +kernel), rfl⟩
theorem dX12_partyLine_5 : Dc mX12_partyLine 5 (.aload_n 0) 1 6 := ⟨zo_42 (by decide +kernel), rfl⟩
theorem dX12_partyLine_6 : Dc mX12_partyLine 6 (.aload_n 0) 1 7 := ⟨zo_42 (by decide +kernel), rfl⟩
theorem dX12_partyLine_7 : Dc mX12_partyLine 7 (.getfield 37) 3 10 := ⟨zo_180 (w := 0) (x := 37) (by decide +kernel), rfl⟩
theorem dX12_partyLine_10 : Dc mX12_partyLine 10 (.iconst 4) 1 11 := ⟨zo_7 (by decide +kernel), rfl⟩
theorem dX12_partyLine_11 : Dc mX12_partyLine 11 (.aload_n 0) 1 12 := ⟨zo_42 (by decide +kernel), rfl⟩
theorem dX12_partyLine_12 : Dc mX12_partyLine 12 (.iconst 3) 1 13 := ⟨zo_6 (by decide +kernel), rfl⟩
theorem dX12_partyLine_13 : Dc mX12_partyLine 13 (.invokevirtual 239) 3 16 := ⟨zo_182 (w := 0) (x := 239) (by decide +kernel), rfl⟩
theorem dX12_partyLine_16 : Dc mX12_partyLine 16 (.invokevirtual 253) 3 19 := ⟨zo_182 (w := 0) (x := 253) (by decide +kernel), rfl⟩
theorem dX12_partyLine_19 : Dc mX12_partyLine 19 (.iastore) 1 20 := ⟨zo_79 (by decide +kernel), rfl⟩
theorem dX12_partyLine_20 : Dc mX12_partyLine 20 (.aload_n 0) 1 21 := ⟨zo_42 (by decide +kernel), rfl⟩
theorem dX12_partyLine_21 : Dc mX12_partyLine 21 (.getfield 40) 3 24 := ⟨zo_180 (w := 0) (x := 40) (by decide +kernel), rfl⟩
theorem dX12_partyLine_24 : Dc mX12_partyLine 24 (.iload_n 1) 1 25 := ⟨zo_27 (by decide +kernel), rfl⟩
theorem dX12_partyLine_25 : Dc mX12_partyLine 25 (.aload_n 0) 1 26 := ⟨zo_42 (by decide +kernel), rfl⟩
theorem dX12_partyLine_26 : Dc mX12_partyLine 26 (.invokevirtual 282) 3 29 := ⟨zo_182 (w := 1) (x := 26) (by decide +kernel), rfl⟩
theorem dX12_partyLine_29 : Dc mX12_partyLine 29 (.iastore) 1 30 := ⟨zo_79 (by decide +kernel), rfl⟩
theorem dX12_partyLine_30 : Dc mX12_partyLine 30 (.aload_n 0) 1 31 := ⟨zo_42 (by decide +kernel), rfl⟩
theorem dX12_partyLine_31 : Dc mX12_partyLine 31 (.invokevirtual 279) 3 34 := ⟨zo_182 (w := 1) (x := 23) (by decide +kernel), rfl⟩
theorem dX12_partyLine_34 : Dc mX12_partyLine 34 (.aload_n 0) 1 35 := ⟨zo_42 (by decide +kernel), rfl⟩
theorem dX12_partyLine_35 : Dc mX12_partyLine 35 (.getfield 43) 3 38 := ⟨zo_180 (w := 0) (x := 43) (by decide +kernel), rfl⟩
theorem dX12_partyLine_38 : Dc mX12_partyLine 38 (.iload_n 1) 1 39 := ⟨zo_27 (by decide +kernel), rfl⟩
theorem dX12_partyLine_39 : Dc mX12_partyLine 39 (.aload_n 0) 1 40 := ⟨zo_42 (by decide +kernel), rfl⟩
theorem dX12_partyLine_40 : Dc mX12_partyLine 40 (.iconst 0) 1 41 := ⟨zo_3 (by decide +kernel), rfl⟩
theorem dX12_partyLine_41 : Dc mX12_partyLine 41 (.aload_n 0) 1 42 := ⟨zo_42 (by decide +kernel), rfl⟩
theorem dX12_partyLine_42 : Dc mX12_partyLine 42 (.getfield 223) 3 45 := ⟨zo_180 (w := 0) (x := 223) (by decide +kernel), rfl⟩
theorem dX12_partyLine_45 : Dc mX12_partyLine 45 (.ifCond .ne 22) 3 48 := ⟨zo_154 (w := 0) (x := 22) (by decide +kernel), rfl⟩
theorem dX12_partyLine_48 : Dc mX12_partyLine 48 (.aload_n 0) 1 49 := ⟨zo_42 (by decide +kernel), rfl⟩
theorem dX12_partyLine_49 : Dc mX12_partyLine 49 (.getfield 22) 3 52 := ⟨zo_180 (w := 0) (x := 22) (by decide +kernel), rfl⟩
theorem dX12_partyLine_52 : Dc mX12_partyLine 52 (.bipush 6) 2 54 := ⟨zo_16 (w := 6) (by decide +kernel), rfl⟩
theorem dX12_partyLine_54 : Dc mX12_partyLine 54 (.aload_n 0) 1 55 := ⟨zo_42 (by decide +kernel), rfl⟩
theorem dX12_partyLine_55 : Dc mX12_partyLine 55 (.getfield 40) 3 58 := ⟨zo_180 (w := 0) (x := 40) (by decide +kernel), rfl⟩
theorem dX12_partyLine_58 : Dc mX12_partyLine 58 (.iload_n 1) 1 59 := ⟨zo_27 (by decide +kernel), rfl⟩
theorem dX12_partyLine_59 : Dc mX12_partyLine 59 (.iaload) 1 60 := ⟨zo_46 (by decide +kernel), rfl⟩
theorem dX12_partyLine_60 : Dc mX12_partyLine 60 (.iadd) 1 61 := ⟨zo_96 (by decide +kernel), rfl⟩
theorem dX12_partyLine_61 : Dc mX12_partyLine 61 (.iaload) 1 62 := ⟨zo_46 (by decide +kernel), rfl⟩
theorem dX12_partyLine_62 : Dc mX12_partyLine 62 (.iconst 1) 1 63 := ⟨zo_4 (by decide +kernel), rfl⟩
theorem dX12_partyLine_63 : Dc mX12_partyLine 63 (.isub) 1 64 := ⟨zo_100 (by decide +kernel), rfl⟩
theorem dX12_partyLine_64 : Dc mX12_partyLine 64 (.goto 4) 3 67 := ⟨zo_167 (w := 0) (x := 4) (by decide +kernel), rfl⟩
theorem dX12_partyLine_67 : Dc mX12_partyLine 67 (.iconst 0) 1 68 := ⟨zo_3 (by decide +kernel), rfl⟩
theorem dX12_partyLine_68 : Dc mX12_partyLine 68 (.invokevirtual 256) 3 71 := ⟨zo_182 (w := 1) (x := 0) (by decide +kernel), rfl⟩
theorem dX12_partyLine_71 : Dc mX12_partyLine 71 (.iastore) 1 72 := ⟨zo_79 (by decide +kernel), rfl⟩
theorem dX12_partyLine_72 : Dc mX12_partyLine 72 (.aload_n 0) 1 73 := ⟨zo_42 (by decide +kernel), rfl⟩
theorem dX12_partyLine_73 : Dc mX12_partyLine 73 (.getfield 46) 3 76 := ⟨zo_180 (w := 0) (x := 46) (by decide +kernel), rfl⟩
theorem dX12_partyLine_76 : Dc mX12_partyLine 76 (.iload_n 1) 1 77 := ⟨zo_27 (by decide +kernel), rfl⟩
theorem dX12_partyLine_77 : Dc mX12_partyLine 77 (.aload_n 0) 1 78 := ⟨zo_42 (by decide +kernel), rfl⟩
theorem dX12_partyLine_78 : Dc mX12_partyLine 78 (.iconst 0) 1 79 := ⟨zo_3 (by decide +kernel), rfl⟩
theorem dX12_partyLine_79 : Dc mX12_partyLine 79 (.bipush 99) 2 81 := ⟨zo_16 (w := 99) (by decide +kernel), rfl⟩
theorem dX12_partyLine_81 : Dc mX12_partyLine 81 (.invokevirtual 256) 3 84 := ⟨zo_182 (w := 1) (x := 0) (by decide +kernel), rfl⟩
theorem dX12_partyLine_84 : Dc mX12_partyLine 84 (.iastore) 1 85 := ⟨zo_79 (by decide +kernel), rfl⟩
theorem dX12_partyLine_85 : Dc mX12_partyLine 85 (.aload_n 0) 1 86 := ⟨zo_42 (by decide +kernel), rfl⟩
theorem dX12_partyLine_86 : Dc mX12_partyLine 86 (.iconst 3) 1 87 := ⟨zo_6 (by decide +kernel), rfl⟩
theorem dX12_partyLine_87 : Dc mX12_partyLine 87 (.aload_n 0) 1 88 := ⟨zo_42 (by decide +kernel), rfl⟩
theorem dX12_partyLine_88 : Dc mX12_partyLine 88 (.iconst 3) 1 89 := ⟨zo_6 (by decide +kernel), rfl⟩
theorem dX12_partyLine_89 : Dc mX12_partyLine 89 (.invokevirtual 239) 3 92 := ⟨zo_182 (w := 0) (x := 239) (by decide +kernel), rfl⟩
theorem dX12_partyLine_92 : Dc mX12_partyLine 92 (.iconst 1) 1 93 := ⟨zo_4 (by decide +kernel), rfl⟩
theorem dX12_partyLine_93 : Dc mX12_partyLine 93 (.iadd) 1 94 := ⟨zo_96 (by decide +kernel), rfl⟩
theorem dX12_partyLine_94 : Dc mX12_partyLine 94 (.invokevirtual 260) 3 97 := ⟨zo_182 (w := 1) (x := 4) (by decide +kernel), rfl⟩
theorem dX12_partyLine_97 : Dc mX12_partyLine 97 (.return_) 1 98 := ⟨zo_177 (by decide +kernel), rfl⟩
theorem dX12_lawLine_0 : Dc mX12_lawLine 0 (.aload_n 0) 1 1 := ⟨zo_42 (by decide +kernel), rfl⟩
theorem dX12_lawLine_1 : Dc mX12_lawLine 1 (.getfield 188) 3 4 := ⟨zo_180 (w := 0) (x := 188) (by decide +kernel), rfl⟩
theorem dX12_lawLine_4 : Dc mX12_lawLine 4 (.ifCond .ne 21) 3 7 := ⟨zo_154 (w := 0) (x := 21) (by decide +kernel), rfl⟩
theorem dX12_lawLine_7 : Dc mX12_lawLine 7 (.aload_n 0) 1 8 := ⟨zo_42 (by decide +kernel), rfl⟩
theorem dX12_lawLine_8 : Dc mX12_lawLine 8 (.getfield 198) 3 11 := ⟨zo_180 (w := 0) (x := 198) (by decide +kernel), rfl⟩
theorem dX12_lawLine_11 : Dc mX12_lawLine 11 (.bipush 10) 2 13 := ⟨zo_16 (w := 10) (by decide +kernel), rfl⟩
theorem dX12_lawLine_13 : Dc mX12_lawLine 13 (.if_icmp .lt 12) 3 16 := ⟨zo_161 (w := 0) (x := 12) (by decide +kernel), rfl⟩
theorem dX12_lawLine_16 : Dc mX12_lawLine 16 (.aload_n 0) 1 17 := ⟨zo_42 (by decide +kernel), rfl⟩
theorem dX12_lawLine_17 : Dc mX12_lawLine 17 (.getfield 198) 3 20 := ⟨zo_180 (w := 0) (x := 198) (by decide +kernel), rfl⟩
theorem dX12_lawLine_20 : Dc mX12_lawLine 20 (.bipush 12) 2 22 := ⟨zo_16 (w := 12) (by decide +kernel), rfl⟩
theorem dX12_lawLine_22 : Dc mX12_lawLine 22 (.if_icmp .le 8) 3 25 := ⟨zo_164 (w := 0) (x := 8) (by decide +kernel), rfl⟩
theorem dX12_lawLine_25 : Dc mX12_lawLine 25 (.aload_n 0) 1 26 := ⟨zo_42 (by decide +kernel), rfl⟩
theorem dX12_lawLine_26 : Dc mX12_lawLine 26 (.iconst 1) 1 27 := ⟨zo_4 (by decide +kernel), rfl⟩
theorem dX12_lawLine_27 : Dc mX12_lawLine 27 (.invokevirtual 232) 3 30 := ⟨zo_182 (w := 0) (x := 232) (by decide +kernel), rfl⟩
theorem dX12_lawLine_30 : Dc mX12_lawLine 30 (.aload_n 0) 1 31 := ⟨zo_42 (by decide +kernel), rfl⟩
theorem dX12_lawLine_31 : Dc mX12_lawLine 31 (.getfield 198) 3 34 := ⟨zo_180 (w := 0) (x := 198) (by decide +kernel), rfl⟩
theorem dX12_lawLine_34 : Dc mX12_lawLine 34 (.bipush 10) 2 36 := ⟨zo_16 (w := 10) (by decide +kernel), rfl⟩
theorem dX12_lawLine_36 : Dc mX12_lawLine 36 (.isub) 1 37 := ⟨zo_100 (by decide +kernel), rfl⟩
theorem dX12_lawLine_37 : Dc mX12_lawLine 37 (.istore_n 1) 1 38 := ⟨zo_60 (by decide +kernel), rfl⟩
theorem dX12_lawLine_38 : Dc mX12_lawLine 38 (.aload_n 0) 1 39 := ⟨zo_42 (by decide +kernel), rfl⟩
theorem dX12_lawLine_39 : Dc mX12_lawLine 39 (.getfield 223) 3 42 := ⟨zo_180 (w := 0) (x := 223) (by decide +kernel), rfl⟩
theorem dX12_lawLine_42 : Dc mX12_lawLine 42 (.ifCond .ne 23) 3 45 := ⟨zo_154 (w := 0) (x := 23) (by decide +kernel), rfl⟩
theorem dX12_lawLine_45 : Dc mX12_lawLine 45 (.aload_n 0) 1 46 := ⟨zo_42 (by decide +kernel), rfl⟩
theorem dX12_lawLine_46 : Dc mX12_lawLine 46 (.getfield 250) 3 49 := ⟨zo_180 (w := 0) (x := 250) (by decide +kernel), rfl⟩
theorem dX12_lawLine_49 : Dc mX12_lawLine 49 (.bipush 16) 2 51 := ⟨zo_16 (w := 16) (by decide +kernel), rfl⟩
theorem dX12_lawLine_51 : Dc mX12_lawLine 51 (.iload_n 1) 1 52 := ⟨zo_27 (by decide +kernel), rfl⟩
theorem dX12_lawLine_52 : Dc mX12_lawLine 52 (.iadd) 1 53 := ⟨zo_96 (by decide +kernel), rfl⟩
theorem dX12_lawLine_53 : Dc mX12_lawLine 53 (.ishr) 1 54 := ⟨zo_122 (by decide +kernel), rfl⟩
theorem dX12_lawLine_54 : Dc mX12_lawLine 54 (.iconst 1) 1 55 := ⟨zo_4 (by decide +kernel), rfl⟩
theorem dX12_lawLine_55 : Dc mX12_lawLine 55 (.iand) 1 56 := ⟨zo_126 (by decide +kernel), rfl⟩
theorem dX12_lawLine_56 : Dc mX12_lawLine 56 (.iconst 1) 1 57 := ⟨zo_4 (by decide +kernel), rfl⟩
theorem dX12_lawLine_57 : Dc mX12_lawLine 57 (.if_icmp .ne 8) 3 60 := ⟨zo_160 (w := 0) (x := 8) (by decide +kernel), rfl⟩
theorem dX12_lawLine_60 : Dc mX12_lawLine 60 (.aload_n 0) 1 61 := ⟨zo_42 (by decide +kernel), rfl⟩
theorem dX12_lawLine_61 : Dc mX12_lawLine 61 (.iconst 3) 1 62 := ⟨zo_6 (by decide +kernel), rfl⟩
theorem dX12_lawLine_62 : Dc mX12_lawLine 62 (.invokevirtual 232) 3 65 := ⟨zo_182 (w := 0) (x := 232) (by decide +kernel), rfl⟩
theorem dX12_lawLine_65 : Dc mX12_lawLine 65 (.aload_n 0) 1 66 := ⟨zo_42 (by decide +kernel), rfl⟩
theorem dX12_lawLine_66 : Dc mX12_lawLine 66 (.getfield 223) 3 69 := ⟨zo_180 (w := 0) (x := 223) (by decide +kernel), rfl⟩
theorem dX12_lawLine_69 : Dc mX12_lawLine 69 (.ifCond .eq 4) 3 72 := ⟨zo_153 (w := 0) (x := 4) (by decide +kernel), rfl⟩
theorem dX12_lawLine_72 : Dc mX12_lawLine 72 (.return_) 1 73 := ⟨zo_177 (by decide +kernel), rfl⟩
theorem dX12_lawLine_73 : Dc mX12_lawLine 73 (.aload_n 0) 1 74 := ⟨zo_42 (by decide +kernel), rfl⟩
theorem dX12_lawLine_74 : Dc mX12_lawLine 74 (.dup) 1 75 := ⟨zo_89 (by decide +kernel), rfl⟩
theorem dX12_lawLine_75 : Dc mX12_lawLine 75 (.getfield 250) 3 78 := ⟨zo_180 (w := 0) (x := 250) (by decide +kernel), rfl⟩
theorem dX12_lawLine_78 : Dc mX12_lawLine 78 (.iconst 1) 1 79 := ⟨zo_4 (by decide +kernel), rfl⟩
theorem dX12_lawLine_79 : Dc mX12_lawLine 79 (.bipush 16) 2 81 := ⟨zo_16 (w := 16) (by decide +kernel), rfl⟩
theorem dX12_lawLine_81 : Dc mX12_lawLine 81 (.iload_n 1) 1 82 := ⟨zo_27 (by decide +kernel), rfl⟩
theorem dX12_lawLine_82 : Dc mX12_lawLine 82 (.iadd) 1 83 := ⟨zo_96 (by decide +kernel), rfl⟩
theorem dX12_lawLine_83 : Dc mX12_lawLine 83 (.ishl) 1 84 := ⟨zo_120 (by decide +kernel), rfl⟩
theorem dX12_lawLine_84 : Dc mX12_lawLine 84 (.ior) 1 85 := ⟨zo_128 (by decide +kernel), rfl⟩
theorem dX12_lawLine_85 : Dc mX12_lawLine 85 (.putfield 250) 3 88 := ⟨zo_181 (w := 0) (x := 250) (by decide +kernel), rfl⟩
theorem dX12_lawLine_88 : Dc mX12_lawLine 88 (.aload_n 0) 1 89 := ⟨zo_42 (by decide +kernel), rfl⟩
theorem dX12_lawLine_89 : Dc mX12_lawLine 89 (.invokevirtual 229) 3 92 := ⟨zo_182 (w := 0) (x := 229) (by decide +kernel), rfl⟩
theorem dX12_lawLine_92 : Dc mX12_lawLine 92 (.aload_n 0) 1 93 := ⟨zo_42 (by decide +kernel), rfl⟩
theorem dX12_lawLine_93 : Dc mX12_lawLine 93 (.getfield 61) 3 96 := ⟨zo_180 (w := 0) (x := 61) (by decide +kernel), rfl⟩
theorem dX12_lawLine_96 : Dc mX12_lawLine 96 (.iconst 3) 1 97 := ⟨zo_6 (by decide +kernel), rfl⟩
theorem dX12_lawLine_97 : Dc mX12_lawLine 97 (.iload_n 1) 1 98 := ⟨zo_27 (by decide +kernel), rfl⟩
theorem dX12_lawLine_98 : Dc mX12_lawLine 98 (.iadd) 1 99 := ⟨zo_96 (by decide +kernel), rfl⟩
theorem dX12_lawLine_99 : Dc mX12_lawLine 99 (.aload_n 0) 1 100 := ⟨zo_42 (by decide +kernel), rfl⟩
theorem dX12_lawLine_100 : Dc mX12_lawLine 100 (.bipush 9) 2 102 := ⟨zo_16 (w := 9) (by decide +kernel), rfl⟩
theorem dX12_lawLine_102 : Dc mX12_lawLine 102 (.invokevirtual 239) 3 105 := ⟨zo_182 (w := 0) (x := 239) (by decide +kernel), rfl⟩
theorem dX12_lawLine_105 : Dc mX12_lawLine 105 (.iastore) 1 106 := ⟨zo_79 (by decide +kernel), rfl⟩
theorem dX12_lawLine_106 : Dc mX12_lawLine 106 (.aload_n 0) 1 107 := ⟨zo_42 (by decide +kernel), rfl⟩
theorem dX12_lawLine_107 : Dc mX12_lawLine 107 (.invokevirtual 285) 3 110 := ⟨zo_182 (w := 1) (x := 29) (by decide +kernel), rfl⟩
theorem dX12_lawLine_110 : Dc mX12_lawLine 110 (.aload_n 0) 1 111 := ⟨zo_42 (by decide +kernel), rfl⟩
theorem dX12_lawLine_111 : Dc mX12_lawLine 111 (.getfield 64) 3 114 := ⟨zo_180 (w := 0) (x := 64) (by decide +kernel), rfl⟩
theorem dX12_lawLine_114 : Dc mX12_lawLine 114 (.iconst 3) 1 115 := ⟨zo_6 (by decide +kernel), rfl⟩
theorem dX12_lawLine_115 : Dc mX12_lawLine 115 (.iload_n 1) 1 116 := ⟨zo_27 (by decide +kernel), rfl⟩
theorem dX12_lawLine_116 : Dc mX12_lawLine 116 (.iadd) 1 117 := ⟨zo_96 (by decide +kernel), rfl⟩
theorem dX12_lawLine_117 : Dc mX12_lawLine 117 (.aload_n 0) 1 118 := ⟨zo_42 (by decide +kernel), rfl⟩
theorem dX12_lawLine_118 : Dc mX12_lawLine 118 (.bipush 9) 2 120 := ⟨zo_16 (w := 9) (by decide +kernel), rfl⟩
theorem dX12_lawLine_120 : Dc mX12_lawLine 120 (.invokevirtual 239) 3 123 := ⟨zo_182 (w := 0) (x := 239) (by decide +kernel), rfl⟩
theorem dX12_lawLine_123 : Dc mX12_lawLine 123 (.iastore) 1 124 := ⟨zo_79 (by decide +kernel), rfl⟩
theorem dX12_lawLine_124 : Dc mX12_lawLine 124 (.return_) 1 125 := ⟨zo_177 (by decide +kernel), rfl⟩
theorem dX12_puts_0 : Dc mX12_puts 0 (.aload_n 0) 1 1 := ⟨zo_42 (by decide +kernel), rfl⟩
theorem dX12_puts_1 : Dc mX12_puts 1 (.getfield 223) 3 4 := ⟨zo_180 (w := 0) (x := 223) (by decide +kernel), rfl⟩
theorem dX12_puts_4 : Dc mX12_puts 4 (.ifCond .eq 4) 3 7 := ⟨zo_153 (w := 0) (x := 4) (by decide +kernel), rfl⟩
theorem dX12_puts_7 : Dc mX12_puts 7 (.return_) 1 8 := ⟨zo_177 (by decide +kernel), rfl⟩
theorem dX12_puts_8 : Dc mX12_puts 8 (.aload_n 0) 1 9 := ⟨zo_42 (by decide +kernel), rfl⟩
theorem dX12_puts_9 : Dc mX12_puts 9 (.getfield 67) 3 12 := ⟨zo_180 (w := 0) (x := 67) (by decide +kernel), rfl⟩
theorem dX12_puts_12 : Dc mX12_puts 12 (.bipush 64) 2 14 := ⟨zo_16 (w := 64) (by decide +kernel), rfl⟩
theorem dX12_puts_14 : Dc mX12_puts 14 (.aload_n 0) 1 15 := ⟨zo_42 (by decide +kernel), rfl⟩
theorem dX12_puts_15 : Dc mX12_puts 15 (.bipush 9) 2 17 := ⟨zo_16 (w := 9) (by decide +kernel), rfl⟩
theorem dX12_puts_17 : Dc mX12_puts 17 (.invokevirtual 239) 3 20 := ⟨zo_182 (w := 0) (x := 239) (by decide +kernel), rfl⟩
theorem dX12_puts_20 : Dc mX12_puts 20 (.iadd) 1 21 := ⟨zo_96 (by decide +kernel), rfl⟩
theorem dX12_puts_21 : Dc mX12_puts 21 (.iload_n 1) 1 22 := ⟨zo_27 (by decide +kernel), rfl⟩
theorem dX12_puts_22 : Dc mX12_puts 22 (.iastore) 1 23 := ⟨zo_79 (by decide +kernel), rfl⟩
theorem dX12_puts_23 : Dc mX12_puts 23 (.aload_n 0) 1 24 := ⟨zo_42 (by decide +kernel), rfl⟩
theorem dX12_puts_24 : Dc mX12_puts 24 (.getfield 70) 3 27 := ⟨zo_180 (w := 0) (x := 70) (by decide +kernel), rfl⟩
theorem dX12_puts_27 : Dc mX12_puts 27 (.bipush 64) 2 29 := ⟨zo_16 (w := 64) (by decide +kernel), rfl⟩
theorem dX12_puts_29 : Dc mX12_puts 29 (.aload_n 0) 1 30 := ⟨zo_42 (by decide +kernel), rfl⟩
theorem dX12_puts_30 : Dc mX12_puts 30 (.bipush 9) 2 32 := ⟨zo_16 (w := 9) (by decide +kernel), rfl⟩
theorem dX12_puts_32 : Dc mX12_puts 32 (.invokevirtual 239) 3 35 := ⟨zo_182 (w := 0) (x := 239) (by decide +kernel), rfl⟩
theorem dX12_puts_35 : Dc mX12_puts 35 (.iadd) 1 36 := ⟨zo_96 (by decide +kernel), rfl⟩
theorem dX12_puts_36 : Dc mX12_puts 36 (.iload_n 2) 1 37 := ⟨zo_28 (by decide +kernel), rfl⟩
theorem dX12_puts_37 : Dc mX12_puts 37 (.iastore) 1 38 := ⟨zo_79 (by decide +kernel), rfl⟩
theorem dX12_puts_38 : Dc mX12_puts 38 (.aload_n 0) 1 39 := ⟨zo_42 (by decide +kernel), rfl⟩
theorem dX12_puts_39 : Dc mX12_puts 39 (.bipush 9) 2 41 := ⟨zo_16 (w := 9) (by decide +kernel), rfl⟩
theorem dX12_puts_41 : Dc mX12_puts 41 (.aload_n 0) 1 42 := ⟨zo_42 (by decide +kernel), rfl⟩
theorem dX12_puts_42 : Dc mX12_puts 42 (.bipush 9) 2 44 := ⟨zo_16 (w := 9) (by decide +kernel), rfl⟩
theorem dX12_puts_44 : Dc mX12_puts 44 (.invokevirtual 239) 3 47 := ⟨zo_182 (w := 0) (x := 239) (by decide +kernel), rfl⟩
theorem dX12_puts_47 : Dc mX12_puts 47 (.iconst 1) 1 48 := ⟨zo_4 (by decide +kernel), rfl⟩
theorem dX12_puts_48 : Dc mX12_puts 48 (.iadd) 1 49 := ⟨zo_96 (by decide +kernel), rfl⟩
theorem dX12_puts_49 : Dc mX12_puts 49 (.invokevirtual 260) 3 52 := ⟨zo_182 (w := 1) (x := 4) (by decide +kernel), rfl⟩
theorem dX12_puts_52 : Dc mX12_puts 52 (.return_) 1 53 := ⟨zo_177 (by decide +kernel), rfl⟩
theorem dX12_knot_0 : Dc mX12_knot 0 (.aload_n 0) 1 1 := ⟨zo_42 (by decide +kernel), rfl⟩
theorem dX12_knot_1 : Dc mX12_knot 1 (.getfield 223) 3 4 := ⟨zo_180 (w := 0) (x := 223) (by decide +kernel), rfl⟩
theorem dX12_knot_4 : Dc mX12_knot 4 (.ifCond .eq 4) 3 7 := ⟨zo_153 (w := 0) (x := 4) (by decide +kernel), rfl⟩
theorem dX12_knot_7 : Dc mX12_knot 7 (.return_) 1 8 := ⟨zo_177 (by decide +kernel), rfl⟩
theorem dX12_knot_8 : Dc mX12_knot 8 (.aload_n 0) 1 9 := ⟨zo_42 (by decide +kernel), rfl⟩
theorem dX12_knot_9 : Dc mX12_knot 9 (.getfield 288) 3 12 := ⟨zo_180 (w := 1) (x := 32) (by decide +kernel), rfl⟩
theorem dX12_knot_12 : Dc mX12_knot 12 (.bipush 64) 2 14 := ⟨zo_16 (w := 64) (by decide +kernel), rfl⟩
theorem dX12_knot_14 : Dc mX12_knot 14 (.if_icmp .ne 11) 3 17 := ⟨zo_160 (w := 0) (x := 11) (by decide +kernel), rfl⟩
theorem dX12_knot_17 : Dc mX12_knot 17 (.aload_n 0) 1 18 := ⟨zo_42 (by decide +kernel), rfl⟩
theorem dX12_knot_18 : Dc mX12_knot 18 (.iconst 2) 1 19 := ⟨zo_5 (by decide +kernel), rfl⟩
theorem dX12_knot_19 : Dc mX12_knot 19 (.invokevirtual 232) 3 22 := ⟨zo_182 (w := 0) (x := 232) (by decide +kernel), rfl⟩
theorem dX12_knot_22 : Dc mX12_knot 22 (.goto 13) 3 25 := ⟨zo_167 (w := 0) (x := 13) (by decide +kernel), rfl⟩
theorem dX12_knot_25 : Dc mX12_knot 25 (.aload_n 0) 1 26 := ⟨zo_42 (by decide +kernel), rfl⟩
theorem dX12_knot_26 : Dc mX12_knot 26 (.dup) 1 27 := ⟨zo_89 (by decide +kernel), rfl⟩
theorem dX12_knot_27 : Dc mX12_knot 27 (.getfield 288) 3 30 := ⟨zo_180 (w := 1) (x := 32) (by decide +kernel), rfl⟩
theorem dX12_knot_30 : Dc mX12_knot 30 (.iconst 1) 1 31 := ⟨zo_4 (by decide +kernel), rfl⟩
theorem dX12_knot_31 : Dc mX12_knot 31 (.iadd) 1 32 := ⟨zo_96 (by decide +kernel), rfl⟩
theorem dX12_knot_32 : Dc mX12_knot 32 (.putfield 288) 3 35 := ⟨zo_181 (w := 1) (x := 32) (by decide +kernel), rfl⟩
theorem dX12_knot_35 : Dc mX12_knot 35 (.return_) 1 36 := ⟨zo_177 (by decide +kernel), rfl⟩
theorem dX12_expression_0 : Dc mX12_expression 0 (.aload_n 0) 1 1 := ⟨zo_42 (by decide +kernel), rfl⟩
theorem dX12_expression_1 : Dc mX12_expression 1 (.invokevirtual 291) 3 4 := ⟨zo_182 (w := 1) (x := 35) (by decide +kernel), rfl⟩
theorem dX12_expression_4 : Dc mX12_expression 4 (.aload_n 0) 1 5 := ⟨zo_42 (by decide +kernel), rfl⟩
theorem dX12_expression_5 : Dc mX12_expression 5 (.bipush 13) 2 7 := ⟨zo_16 (w := 13) (by decide +kernel), rfl⟩
theorem dX12_expression_7 : Dc mX12_expression 7 (.invokevirtual 294) 3 10 := ⟨zo_182 (w := 1) (x := 38) (by decide +kernel), rfl⟩
theorem dX12_expression_10 : Dc mX12_expression 10 (.ifCond .eq 26) 3 13 := ⟨zo_153 (w := 0) (x := 26) (by decide +kernel), rfl⟩
theorem dX12_expression_13 : Dc mX12_expression 13 (.aload_n 0) 1 14 := ⟨zo_42 (by decide +kernel), rfl⟩
theorem dX12_expression_14 : Dc mX12_expression 14 (.invokevirtual 297) 3 17 := ⟨zo_182 (w := 1) (x := 41) (by decide +kernel), rfl⟩
theorem dX12_expression_17 : Dc mX12_expression 17 (.aload_n 0) 1 18 := ⟨zo_42 (by decide +kernel), rfl⟩
theorem dX12_expression_18 : Dc mX12_expression 18 (.invokevirtual 279) 3 21 := ⟨zo_182 (w := 1) (x := 23) (by decide +kernel), rfl⟩
theorem dX12_expression_21 : Dc mX12_expression 21 (.aload_n 0) 1 22 := ⟨zo_42 (by decide +kernel), rfl⟩
theorem dX12_expression_22 : Dc mX12_expression 22 (.invokevirtual 291) 3 25 := ⟨zo_182 (w := 1) (x := 35) (by decide +kernel), rfl⟩
theorem dX12_expression_25 : Dc mX12_expression 25 (.aload_n 0) 1 26 := ⟨zo_42 (by decide +kernel), rfl⟩
theorem dX12_expression_26 : Dc mX12_expression 26 (.iconst 2) 1 27 := ⟨zo_5 (by decide +kernel), rfl⟩
theorem dX12_expression_27 : Dc mX12_expression 27 (.sipush 262) 3 30 := ⟨zo_17 (w := 1) (x := 6) (by decide +kernel), rfl⟩
theorem dX12_expression_30 : Dc mX12_expression 30 (.invokevirtual 300) 3 33 := ⟨zo_182 (w := 1) (x := 44) (by decide +kernel), rfl⟩
theorem dX12_expression_33 : Dc mX12_expression 33 (.goto (-29)) 3 36 := ⟨zo_167 (w := 255) (x := 227) (by decide +kernel), rfl⟩
theorem dX12_expression_36 : Dc mX12_expression 36 (.return_) 1 37 := ⟨zo_177 (by decide +kernel), rfl⟩
theorem dX12_conjunction_0 : Dc mX12_conjunction 0 (.aload_n 0) 1 1 := ⟨zo_42 (by decide +kernel), rfl⟩
theorem dX12_conjunction_1 : Dc mX12_conjunction 1 (.invokevirtual 303) 3 4 := ⟨zo_182 (w := 1) (x := 47) (by decide +kernel), rfl⟩
theorem dX12_conjunction_4 : Dc mX12_conjunction 4 (.aload_n 0) 1 5 := ⟨zo_42 (by decide +kernel), rfl⟩
theorem dX12_conjunction_5 : Dc mX12_conjunction 5 (.bipush 14) 2 7 := ⟨zo_16 (w := 14) (by decide +kernel), rfl⟩
theorem dX12_conjunction_7 : Dc mX12_conjunction 7 (.invokevirtual 294) 3 10 := ⟨zo_182 (w := 1) (x := 38) (by decide +kernel), rfl⟩
theorem dX12_conjunction_10 : Dc mX12_conjunction 10 (.ifCond .eq 26) 3 13 := ⟨zo_153 (w := 0) (x := 26) (by decide +kernel), rfl⟩
theorem dX12_conjunction_13 : Dc mX12_conjunction 13 (.aload_n 0) 1 14 := ⟨zo_42 (by decide +kernel), rfl⟩
theorem dX12_conjunction_14 : Dc mX12_conjunction 14 (.invokevirtual 297) 3 17 := ⟨zo_182 (w := 1) (x := 41) (by decide +kernel), rfl⟩
theorem dX12_conjunction_17 : Dc mX12_conjunction 17 (.aload_n 0) 1 18 := ⟨zo_42 (by decide +kernel), rfl⟩
theorem dX12_conjunction_18 : Dc mX12_conjunction 18 (.invokevirtual 279) 3 21 := ⟨zo_182 (w := 1) (x := 23) (by decide +kernel), rfl⟩
theorem dX12_conjunction_21 : Dc mX12_conjunction 21 (.aload_n 0) 1 22 := ⟨zo_42 (by decide +kernel), rfl⟩
theorem dX12_conjunction_22 : Dc mX12_conjunction 22 (.invokevirtual 303) 3 25 := ⟨zo_182 (w := 1) (x := 47) (by decide +kernel), rfl⟩
theorem dX12_conjunction_25 : Dc mX12_conjunction 25 (.aload_n 0) 1 26 := ⟨zo_42 (by decide +kernel), rfl⟩
theorem dX12_conjunction_26 : Dc mX12_conjunction 26 (.iconst 2) 1 27 := ⟨zo_5 (by decide +kernel), rfl⟩
theorem dX12_conjunction_27 : Dc mX12_conjunction 27 (.sipush 261) 3 30 := ⟨zo_17 (w := 1) (x := 5) (by decide +kernel), rfl⟩
theorem dX12_conjunction_30 : Dc mX12_conjunction 30 (.invokevirtual 300) 3 33 := ⟨zo_182 (w := 1) (x := 44) (by decide +kernel), rfl⟩
theorem dX12_conjunction_33 : Dc mX12_conjunction 33 (.goto (-29)) 3 36 := ⟨zo_167 (w := 255) (x := 227) (by decide +kernel), rfl⟩
theorem dX12_conjunction_36 : Dc mX12_conjunction 36 (.return_) 1 37 := ⟨zo_177 (by decide +kernel), rfl⟩
theorem dX12_negation_0 : Dc mX12_negation 0 (.aload_n 0) 1 1 := ⟨zo_42 (by decide +kernel), rfl⟩
theorem dX12_negation_1 : Dc mX12_negation 1 (.bipush 15) 2 3 := ⟨zo_16 (w := 15) (by decide +kernel), rfl⟩
theorem dX12_negation_3 : Dc mX12_negation 3 (.invokevirtual 294) 3 6 := ⟨zo_182 (w := 1) (x := 38) (by decide +kernel), rfl⟩
theorem dX12_negation_6 : Dc mX12_negation 6 (.ifCond .eq 24) 3 9 := ⟨zo_153 (w := 0) (x := 24) (by decide +kernel), rfl⟩
theorem dX12_negation_9 : Dc mX12_negation 9 (.aload_n 0) 1 10 := ⟨zo_42 (by decide +kernel), rfl⟩
theorem dX12_negation_10 : Dc mX12_negation 10 (.invokevirtual 297) 3 13 := ⟨zo_182 (w := 1) (x := 41) (by decide +kernel), rfl⟩
theorem dX12_negation_13 : Dc mX12_negation 13 (.aload_n 0) 1 14 := ⟨zo_42 (by decide +kernel), rfl⟩
theorem dX12_negation_14 : Dc mX12_negation 14 (.invokevirtual 279) 3 17 := ⟨zo_182 (w := 1) (x := 23) (by decide +kernel), rfl⟩
theorem dX12_negation_17 : Dc mX12_negation 17 (.aload_n 0) 1 18 := ⟨zo_42 (by decide +kernel), rfl⟩
theorem dX12_negation_18 : Dc mX12_negation 18 (.invokevirtual 303) 3 21 := ⟨zo_182 (w := 1) (x := 47) (by decide +kernel), rfl⟩
theorem dX12_negation_21 : Dc mX12_negation 21 (.aload_n 0) 1 22 := ⟨zo_42 (by decide +kernel), rfl⟩
theorem dX12_negation_22 : Dc mX12_negation 22 (.iconst 2) 1 23 := ⟨zo_5 (by decide +kernel), rfl⟩
theorem dX12_negation_23 : Dc mX12_negation 23 (.sipush 260) 3 26 := ⟨zo_17 (w := 1) (x := 4) (by decide +kernel), rfl⟩
theorem dX12_negation_26 : Dc mX12_negation 26 (.invokevirtual 300) 3 29 := ⟨zo_182 (w := 1) (x := 44) (by decide +kernel), rfl⟩
theorem dX12_negation_29 : Dc mX12_negation 29 (.return_) 1 30 := ⟨zo_177 (by decide +kernel), rfl⟩
theorem dX12_negation_30 : Dc mX12_negation 30 (.aload_n 0) 1 31 := ⟨zo_42 (by decide +kernel), rfl⟩
theorem dX12_negation_31 : Dc mX12_negation 31 (.invokevirtual 306) 3 34 := ⟨zo_182 (w := 1) (x := 50) (by decide +kernel), rfl⟩
theorem dX12_negation_34 : Dc mX12_negation 34 (.aload_n 0) 1 35 := ⟨zo_42 (by decide +kernel), rfl⟩
theorem dX12_negation_35 : Dc mX12_negation 35 (.getfield 223) 3 38 := ⟨zo_180 (w := 0) (x := 223) (by decide +kernel), rfl⟩
theorem dX12_negation_38 : Dc mX12_negation 38 (.ifCond .ne 48) 3 41 := ⟨zo_154 (w := 0) (x := 48) (by decide +kernel), rfl⟩
theorem dX12_negation_41 : Dc mX12_negation 41 (.aload_n 0) 1 42 := ⟨zo_42 (by decide +kernel), rfl⟩
theorem dX12_negation_42 : Dc mX12_negation 42 (.getfield 188) 3 45 := ⟨zo_180 (w := 0) (x := 188) (by decide +kernel), rfl⟩
theorem dX12_negation_45 : Dc mX12_negation 45 (.iconst 3) 1 46 := ⟨zo_6 (by decide +kernel), rfl⟩
theorem dX12_negation_46 : Dc mX12_negation 46 (.if_icmp .ne 40) 3 49 := ⟨zo_160 (w := 0) (x := 40) (by decide +kernel), rfl⟩
theorem dX12_negation_49 : Dc mX12_negation 49 (.aload_n 0) 1 50 := ⟨zo_42 (by decide +kernel), rfl⟩
theorem dX12_negation_50 : Dc mX12_negation 50 (.getfield 198) 3 53 := ⟨zo_180 (w := 0) (x := 198) (by decide +kernel), rfl⟩
theorem dX12_negation_53 : Dc mX12_negation 53 (.bipush 60) 2 55 := ⟨zo_16 (w := 60) (by decide +kernel), rfl⟩
theorem dX12_negation_55 : Dc mX12_negation 55 (.if_icmp .eq 32) 3 58 := ⟨zo_159 (w := 0) (x := 32) (by decide +kernel), rfl⟩
theorem dX12_negation_58 : Dc mX12_negation 58 (.aload_n 0) 1 59 := ⟨zo_42 (by decide +kernel), rfl⟩
theorem dX12_negation_59 : Dc mX12_negation 59 (.getfield 198) 3 62 := ⟨zo_180 (w := 0) (x := 198) (by decide +kernel), rfl⟩
theorem dX12_negation_62 : Dc mX12_negation 62 (.bipush 62) 2 64 := ⟨zo_16 (w := 62) (by decide +kernel), rfl⟩
theorem dX12_negation_64 : Dc mX12_negation 64 (.if_icmp .eq 23) 3 67 := ⟨zo_159 (w := 0) (x := 23) (by decide +kernel), rfl⟩
theorem dX12_negation_67 : Dc mX12_negation 67 (.aload_n 0) 1 68 := ⟨zo_42 (by decide +kernel), rfl⟩
theorem dX12_negation_68 : Dc mX12_negation 68 (.getfield 198) 3 71 := ⟨zo_180 (w := 0) (x := 198) (by decide +kernel), rfl⟩
theorem dX12_negation_71 : Dc mX12_negation 71 (.bipush 61) 2 73 := ⟨zo_16 (w := 61) (by decide +kernel), rfl⟩
theorem dX12_negation_73 : Dc mX12_negation 73 (.if_icmp .eq 14) 3 76 := ⟨zo_159 (w := 0) (x := 14) (by decide +kernel), rfl⟩
theorem dX12_negation_76 : Dc mX12_negation 76 (.aload_n 0) 1 77 := ⟨zo_42 (by decide +kernel), rfl⟩
theorem dX12_negation_77 : Dc mX12_negation 77 (.getfield 198) 3 80 := ⟨zo_180 (w := 0) (x := 198) (by decide +kernel), rfl⟩
theorem dX12_negation_80 : Dc mX12_negation 80 (.sipush 256) 3 83 := ⟨zo_17 (w := 1) (x := 0) (by decide +kernel), rfl⟩
theorem dX12_negation_83 : Dc mX12_negation 83 (.if_icmp .ge 4) 3 86 := ⟨zo_162 (w := 0) (x := 4) (by decide +kernel), rfl⟩
theorem dX12_negation_86 : Dc mX12_negation 86 (.return_) 1 87 := ⟨zo_177 (by decide +kernel), rfl⟩
theorem dX12_negation_87 : Dc mX12_negation 87 (.aload_n 0) 1 88 := ⟨zo_42 (by decide +kernel), rfl⟩
theorem dX12_negation_88 : Dc mX12_negation 88 (.getfield 198) 3 91 := ⟨zo_180 (w := 0) (x := 198) (by decide +kernel), rfl⟩
theorem dX12_negation_91 : Dc mX12_negation 91 (.istore_n 1) 1 92 := ⟨zo_60 (by decide +kernel), rfl⟩
theorem dX12_negation_92 : Dc mX12_negation 92 (.aload_n 0) 1 93 := ⟨zo_42 (by decide +kernel), rfl⟩
theorem dX12_negation_93 : Dc mX12_negation 93 (.invokevirtual 297) 3 96 := ⟨zo_182 (w := 1) (x := 41) (by decide +kernel), rfl⟩
theorem dX12_negation_96 : Dc mX12_negation 96 (.aload_n 0) 1 97 := ⟨zo_42 (by decide +kernel), rfl⟩
theorem dX12_negation_97 : Dc mX12_negation 97 (.invokevirtual 279) 3 100 := ⟨zo_182 (w := 1) (x := 23) (by decide +kernel), rfl⟩
theorem dX12_negation_100 : Dc mX12_negation 100 (.aload_n 0) 1 101 := ⟨zo_42 (by decide +kernel), rfl⟩
theorem dX12_negation_101 : Dc mX12_negation 101 (.invokevirtual 306) 3 104 := ⟨zo_182 (w := 1) (x := 50) (by decide +kernel), rfl⟩
theorem dX12_negation_104 : Dc mX12_negation 104 (.aload_n 0) 1 105 := ⟨zo_42 (by decide +kernel), rfl⟩
theorem dX12_negation_105 : Dc mX12_negation 105 (.iconst 2) 1 106 := ⟨zo_5 (by decide +kernel), rfl⟩
theorem dX12_negation_106 : Dc mX12_negation 106 (.iload_n 1) 1 107 := ⟨zo_27 (by decide +kernel), rfl⟩
theorem dX12_negation_107 : Dc mX12_negation 107 (.invokevirtual 300) 3 110 := ⟨zo_182 (w := 1) (x := 44) (by decide +kernel), rfl⟩
theorem dX12_negation_110 : Dc mX12_negation 110 (.return_) 1 111 := ⟨zo_177 (by decide +kernel), rfl⟩
theorem dX12_sum_0 : Dc mX12_sum 0 (.aload_n 0) 1 1 := ⟨zo_42 (by decide +kernel), rfl⟩
theorem dX12_sum_1 : Dc mX12_sum 1 (.invokevirtual 309) 3 4 := ⟨zo_182 (w := 1) (x := 53) (by decide +kernel), rfl⟩
theorem dX12_sum_4 : Dc mX12_sum 4 (.aload_n 0) 1 5 := ⟨zo_42 (by decide +kernel), rfl⟩
theorem dX12_sum_5 : Dc mX12_sum 5 (.bipush 43) 2 7 := ⟨zo_16 (w := 43) (by decide +kernel), rfl⟩
theorem dX12_sum_7 : Dc mX12_sum 7 (.invokevirtual 273) 3 10 := ⟨zo_182 (w := 1) (x := 17) (by decide +kernel), rfl⟩
theorem dX12_sum_10 : Dc mX12_sum 10 (.ifCond .ne 12) 3 13 := ⟨zo_154 (w := 0) (x := 12) (by decide +kernel), rfl⟩
theorem dX12_sum_13 : Dc mX12_sum 13 (.aload_n 0) 1 14 := ⟨zo_42 (by decide +kernel), rfl⟩
theorem dX12_sum_14 : Dc mX12_sum 14 (.bipush 45) 2 16 := ⟨zo_16 (w := 45) (by decide +kernel), rfl⟩
theorem dX12_sum_16 : Dc mX12_sum 16 (.invokevirtual 273) 3 19 := ⟨zo_182 (w := 1) (x := 17) (by decide +kernel), rfl⟩
theorem dX12_sum_19 : Dc mX12_sum 19 (.ifCond .eq 29) 3 22 := ⟨zo_153 (w := 0) (x := 29) (by decide +kernel), rfl⟩
theorem dX12_sum_22 : Dc mX12_sum 22 (.aload_n 0) 1 23 := ⟨zo_42 (by decide +kernel), rfl⟩
theorem dX12_sum_23 : Dc mX12_sum 23 (.getfield 198) 3 26 := ⟨zo_180 (w := 0) (x := 198) (by decide +kernel), rfl⟩
theorem dX12_sum_26 : Dc mX12_sum 26 (.istore_n 1) 1 27 := ⟨zo_60 (by decide +kernel), rfl⟩
theorem dX12_sum_27 : Dc mX12_sum 27 (.aload_n 0) 1 28 := ⟨zo_42 (by decide +kernel), rfl⟩
theorem dX12_sum_28 : Dc mX12_sum 28 (.invokevirtual 297) 3 31 := ⟨zo_182 (w := 1) (x := 41) (by decide +kernel), rfl⟩
theorem dX12_sum_31 : Dc mX12_sum 31 (.aload_n 0) 1 32 := ⟨zo_42 (by decide +kernel), rfl⟩
theorem dX12_sum_32 : Dc mX12_sum 32 (.invokevirtual 279) 3 35 := ⟨zo_182 (w := 1) (x := 23) (by decide +kernel), rfl⟩
theorem dX12_sum_35 : Dc mX12_sum 35 (.aload_n 0) 1 36 := ⟨zo_42 (by decide +kernel), rfl⟩
theorem dX12_sum_36 : Dc mX12_sum 36 (.invokevirtual 309) 3 39 := ⟨zo_182 (w := 1) (x := 53) (by decide +kernel), rfl⟩
theorem dX12_sum_39 : Dc mX12_sum 39 (.aload_n 0) 1 40 := ⟨zo_42 (by decide +kernel), rfl⟩
theorem dX12_sum_40 : Dc mX12_sum 40 (.iconst 2) 1 41 := ⟨zo_5 (by decide +kernel), rfl⟩
theorem dX12_sum_41 : Dc mX12_sum 41 (.iload_n 1) 1 42 := ⟨zo_27 (by decide +kernel), rfl⟩
theorem dX12_sum_42 : Dc mX12_sum 42 (.invokevirtual 300) 3 45 := ⟨zo_182 (w := 1) (x := 44) (by decide +kernel), rfl⟩
theorem dX12_sum_45 : Dc mX12_sum 45 (.goto (-41)) 3 48 := ⟨zo_167 (w := 255) (x := 215) (by decide +kernel), rfl⟩
theorem dX12_sum_48 : Dc mX12_sum 48 (.return_) 1 49 := ⟨zo_177 (by decide +kernel), rfl⟩
theorem dX12_product_0 : Dc mX12_product 0 (.aload_n 0) 1 1 := ⟨zo_42 (by decide +kernel), rfl⟩
theorem dX12_product_1 : Dc mX12_product 1 (.invokevirtual 312) 3 4 := ⟨zo_182 (w := 1) (x := 56) (by decide +kernel), rfl⟩
theorem dX12_product_4 : Dc mX12_product 4 (.aload_n 0) 1 5 := ⟨zo_42 (by decide +kernel), rfl⟩
theorem dX12_product_5 : Dc mX12_product 5 (.bipush 42) 2 7 := ⟨zo_16 (w := 42) (by decide +kernel), rfl⟩
theorem dX12_product_7 : Dc mX12_product 7 (.invokevirtual 273) 3 10 := ⟨zo_182 (w := 1) (x := 17) (by decide +kernel), rfl⟩
theorem dX12_product_10 : Dc mX12_product 10 (.ifCond .ne 12) 3 13 := ⟨zo_154 (w := 0) (x := 12) (by decide +kernel), rfl⟩
theorem dX12_product_13 : Dc mX12_product 13 (.aload_n 0) 1 14 := ⟨zo_42 (by decide +kernel), rfl⟩
theorem dX12_product_14 : Dc mX12_product 14 (.bipush 47) 2 16 := ⟨zo_16 (w := 47) (by decide +kernel), rfl⟩
theorem dX12_product_16 : Dc mX12_product 16 (.invokevirtual 273) 3 19 := ⟨zo_182 (w := 1) (x := 17) (by decide +kernel), rfl⟩
theorem dX12_product_19 : Dc mX12_product 19 (.ifCond .eq 29) 3 22 := ⟨zo_153 (w := 0) (x := 29) (by decide +kernel), rfl⟩
theorem dX12_product_22 : Dc mX12_product 22 (.aload_n 0) 1 23 := ⟨zo_42 (by decide +kernel), rfl⟩
theorem dX12_product_23 : Dc mX12_product 23 (.getfield 198) 3 26 := ⟨zo_180 (w := 0) (x := 198) (by decide +kernel), rfl⟩
theorem dX12_product_26 : Dc mX12_product 26 (.istore_n 1) 1 27 := ⟨zo_60 (by decide +kernel), rfl⟩
theorem dX12_product_27 : Dc mX12_product 27 (.aload_n 0) 1 28 := ⟨zo_42 (by decide +kernel), rfl⟩
theorem dX12_product_28 : Dc mX12_product 28 (.invokevirtual 297) 3 31 := ⟨zo_182 (w := 1) (x := 41) (by decide +kernel), rfl⟩
theorem dX12_product_31 : Dc mX12_product 31 (.aload_n 0) 1 32 := ⟨zo_42 (by decide +kernel), rfl⟩
theorem dX12_product_32 : Dc mX12_product 32 (.invokevirtual 279) 3 35 := ⟨zo_182 (w := 1) (x := 23) (by decide +kernel), rfl⟩
theorem dX12_product_35 : Dc mX12_product 35 (.aload_n 0) 1 36 := ⟨zo_42 (by decide +kernel), rfl⟩
theorem dX12_product_36 : Dc mX12_product 36 (.invokevirtual 312) 3 39 := ⟨zo_182 (w := 1) (x := 56) (by decide +kernel), rfl⟩
theorem dX12_product_39 : Dc mX12_product 39 (.aload_n 0) 1 40 := ⟨zo_42 (by decide +kernel), rfl⟩
theorem dX12_product_40 : Dc mX12_product 40 (.iconst 2) 1 41 := ⟨zo_5 (by decide +kernel), rfl⟩
theorem dX12_product_41 : Dc mX12_product 41 (.iload_n 1) 1 42 := ⟨zo_27 (by decide +kernel), rfl⟩
theorem dX12_product_42 : Dc mX12_product 42 (.invokevirtual 300) 3 45 := ⟨zo_182 (w := 1) (x := 44) (by decide +kernel), rfl⟩
theorem dX12_product_45 : Dc mX12_product 45 (.goto (-41)) 3 48 := ⟨zo_167 (w := 255) (x := 215) (by decide +kernel), rfl⟩
theorem dX12_product_48 : Dc mX12_product 48 (.return_) 1 49 := ⟨zo_177 (by decide +kernel), rfl⟩
theorem dX12_primary_0 : Dc mX12_primary 0 (.aload_n 0) 1 1 := ⟨zo_42 (by decide +kernel), rfl⟩
theorem dX12_primary_1 : Dc mX12_primary 1 (.getfield 223) 3 4 := ⟨zo_180 (w := 0) (x := 223) (by decide +kernel), rfl⟩
theorem dX12_primary_4 : Dc mX12_primary 4 (.ifCond .eq 4) 3 7 := ⟨zo_153 (w := 0) (x := 4) (by decide +kernel), rfl⟩
theorem dX12_primary_7 : Dc mX12_primary 7 (.return_) 1 8 := ⟨zo_177 (by decide +kernel), rfl⟩
theorem dX12_primary_8 : Dc mX12_primary 8 (.aload_n 0) 1 9 := ⟨zo_42 (by decide +kernel), rfl⟩
theorem dX12_primary_9 : Dc mX12_primary 9 (.bipush 40) 2 11 := ⟨zo_16 (w := 40) (by decide +kernel), rfl⟩
theorem dX12_primary_11 : Dc mX12_primary 11 (.invokevirtual 273) 3 14 := ⟨zo_182 (w := 1) (x := 17) (by decide +kernel), rfl⟩
theorem dX12_primary_14 : Dc mX12_primary 14 (.ifCond .eq 87) 3 17 := ⟨zo_153 (w := 0) (x := 87) (by decide +kernel), rfl⟩
theorem dX12_primary_17 : Dc mX12_primary 17 (.aload_n 0) 1 18 := ⟨zo_42 (by decide +kernel), rfl⟩
theorem dX12_primary_18 : Dc mX12_primary 18 (.getfield 315) 3 21 := ⟨zo_180 (w := 1) (x := 59) (by decide +kernel), rfl⟩
theorem dX12_primary_21 : Dc mX12_primary 21 (.bipush 8) 2 23 := ⟨zo_16 (w := 8) (by decide +kernel), rfl⟩
theorem dX12_primary_23 : Dc mX12_primary 23 (.if_icmp .ne 8) 3 26 := ⟨zo_160 (w := 0) (x := 8) (by decide +kernel), rfl⟩
theorem dX12_primary_26 : Dc mX12_primary 26 (.aload_n 0) 1 27 := ⟨zo_42 (by decide +kernel), rfl⟩
theorem dX12_primary_27 : Dc mX12_primary 27 (.iconst 2) 1 28 := ⟨zo_5 (by decide +kernel), rfl⟩
theorem dX12_primary_28 : Dc mX12_primary 28 (.invokevirtual 232) 3 31 := ⟨zo_182 (w := 0) (x := 232) (by decide +kernel), rfl⟩
theorem dX12_primary_31 : Dc mX12_primary 31 (.aload_n 0) 1 32 := ⟨zo_42 (by decide +kernel), rfl⟩
theorem dX12_primary_32 : Dc mX12_primary 32 (.getfield 223) 3 35 := ⟨zo_180 (w := 0) (x := 223) (by decide +kernel), rfl⟩
theorem dX12_primary_35 : Dc mX12_primary 35 (.ifCond .eq 4) 3 38 := ⟨zo_153 (w := 0) (x := 4) (by decide +kernel), rfl⟩
theorem dX12_primary_38 : Dc mX12_primary 38 (.return_) 1 39 := ⟨zo_177 (by decide +kernel), rfl⟩
theorem dX12_primary_39 : Dc mX12_primary 39 (.aload_n 0) 1 40 := ⟨zo_42 (by decide +kernel), rfl⟩
theorem dX12_primary_40 : Dc mX12_primary 40 (.dup) 1 41 := ⟨zo_89 (by decide +kernel), rfl⟩
theorem dX12_primary_41 : Dc mX12_primary 41 (.getfield 315) 3 44 := ⟨zo_180 (w := 1) (x := 59) (by decide +kernel), rfl⟩
theorem dX12_primary_44 : Dc mX12_primary 44 (.iconst 1) 1 45 := ⟨zo_4 (by decide +kernel), rfl⟩
theorem dX12_primary_45 : Dc mX12_primary 45 (.iadd) 1 46 := ⟨zo_96 (by decide +kernel), rfl⟩
theorem dX12_primary_46 : Dc mX12_primary 46 (.putfield 315) 3 49 := ⟨zo_181 (w := 1) (x := 59) (by decide +kernel), rfl⟩
theorem dX12_primary_49 : Dc mX12_primary 49 (.aload_n 0) 1 50 := ⟨zo_42 (by decide +kernel), rfl⟩
theorem dX12_primary_50 : Dc mX12_primary 50 (.invokevirtual 229) 3 53 := ⟨zo_182 (w := 0) (x := 229) (by decide +kernel), rfl⟩
theorem dX12_primary_53 : Dc mX12_primary 53 (.aload_n 0) 1 54 := ⟨zo_42 (by decide +kernel), rfl⟩
theorem dX12_primary_54 : Dc mX12_primary 54 (.invokevirtual 285) 3 57 := ⟨zo_182 (w := 1) (x := 29) (by decide +kernel), rfl⟩
theorem dX12_primary_57 : Dc mX12_primary 57 (.aload_n 0) 1 58 := ⟨zo_42 (by decide +kernel), rfl⟩
theorem dX12_primary_58 : Dc mX12_primary 58 (.getfield 223) 3 61 := ⟨zo_180 (w := 0) (x := 223) (by decide +kernel), rfl⟩
theorem dX12_primary_61 : Dc mX12_primary 61 (.ifCond .ne 17) 3 64 := ⟨zo_154 (w := 0) (x := 17) (by decide +kernel), rfl⟩
theorem dX12_primary_64 : Dc mX12_primary 64 (.aload_n 0) 1 65 := ⟨zo_42 (by decide +kernel), rfl⟩
theorem dX12_primary_65 : Dc mX12_primary 65 (.bipush 41) 2 67 := ⟨zo_16 (w := 41) (by decide +kernel), rfl⟩
theorem dX12_primary_67 : Dc mX12_primary 67 (.invokevirtual 273) 3 70 := ⟨zo_182 (w := 1) (x := 17) (by decide +kernel), rfl⟩
theorem dX12_primary_70 : Dc mX12_primary 70 (.ifCond .ne 8) 3 73 := ⟨zo_154 (w := 0) (x := 8) (by decide +kernel), rfl⟩
theorem dX12_primary_73 : Dc mX12_primary 73 (.aload_n 0) 1 74 := ⟨zo_42 (by decide +kernel), rfl⟩
theorem dX12_primary_74 : Dc mX12_primary 74 (.iconst 1) 1 75 := ⟨zo_4 (by decide +kernel), rfl⟩
theorem dX12_primary_75 : Dc mX12_primary 75 (.invokevirtual 232) 3 78 := ⟨zo_182 (w := 0) (x := 232) (by decide +kernel), rfl⟩
theorem dX12_primary_78 : Dc mX12_primary 78 (.aload_n 0) 1 79 := ⟨zo_42 (by decide +kernel), rfl⟩
theorem dX12_primary_79 : Dc mX12_primary 79 (.getfield 223) 3 82 := ⟨zo_180 (w := 0) (x := 223) (by decide +kernel), rfl⟩
theorem dX12_primary_82 : Dc mX12_primary 82 (.ifCond .eq 4) 3 85 := ⟨zo_153 (w := 0) (x := 4) (by decide +kernel), rfl⟩
theorem dX12_primary_85 : Dc mX12_primary 85 (.return_) 1 86 := ⟨zo_177 (by decide +kernel), rfl⟩
theorem dX12_primary_86 : Dc mX12_primary 86 (.aload_n 0) 1 87 := ⟨zo_42 (by decide +kernel), rfl⟩
theorem dX12_primary_87 : Dc mX12_primary 87 (.dup) 1 88 := ⟨zo_89 (by decide +kernel), rfl⟩
theorem dX12_primary_88 : Dc mX12_primary 88 (.getfield 315) 3 91 := ⟨zo_180 (w := 1) (x := 59) (by decide +kernel), rfl⟩
theorem dX12_primary_91 : Dc mX12_primary 91 (.iconst 1) 1 92 := ⟨zo_4 (by decide +kernel), rfl⟩
theorem dX12_primary_92 : Dc mX12_primary 92 (.isub) 1 93 := ⟨zo_100 (by decide +kernel), rfl⟩
theorem dX12_primary_93 : Dc mX12_primary 93 (.putfield 315) 3 96 := ⟨zo_181 (w := 1) (x := 59) (by decide +kernel), rfl⟩
theorem dX12_primary_96 : Dc mX12_primary 96 (.aload_n 0) 1 97 := ⟨zo_42 (by decide +kernel), rfl⟩
theorem dX12_primary_97 : Dc mX12_primary 97 (.invokevirtual 229) 3 100 := ⟨zo_182 (w := 0) (x := 229) (by decide +kernel), rfl⟩
theorem dX12_primary_100 : Dc mX12_primary 100 (.return_) 1 101 := ⟨zo_177 (by decide +kernel), rfl⟩
theorem dX12_primary_101 : Dc mX12_primary 101 (.aload_n 0) 1 102 := ⟨zo_42 (by decide +kernel), rfl⟩
theorem dX12_primary_102 : Dc mX12_primary 102 (.getfield 188) 3 105 := ⟨zo_180 (w := 0) (x := 188) (by decide +kernel), rfl⟩
theorem dX12_primary_105 : Dc mX12_primary 105 (.iconst 2) 1 106 := ⟨zo_5 (by decide +kernel), rfl⟩
theorem dX12_primary_106 : Dc mX12_primary 106 (.if_icmp .ne 7) 3 109 := ⟨zo_160 (w := 0) (x := 7) (by decide +kernel), rfl⟩
theorem dX12_primary_109 : Dc mX12_primary 109 (.iconst 1) 1 110 := ⟨zo_4 (by decide +kernel), rfl⟩
theorem dX12_primary_110 : Dc mX12_primary 110 (.goto 4) 3 113 := ⟨zo_167 (w := 0) (x := 4) (by decide +kernel), rfl⟩
theorem dX12_primary_113 : Dc mX12_primary 113 (.iconst 0) 1 114 := ⟨zo_3 (by decide +kernel), rfl⟩
theorem dX12_primary_114 : Dc mX12_primary 114 (.istore_n 1) 1 115 := ⟨zo_60 (by decide +kernel), rfl⟩
theorem dX12_primary_115 : Dc mX12_primary 115 (.iload_n 1) 1 116 := ⟨zo_27 (by decide +kernel), rfl⟩
theorem dX12_primary_116 : Dc mX12_primary 116 (.ifCond .eq 21) 3 119 := ⟨zo_153 (w := 0) (x := 21) (by decide +kernel), rfl⟩
theorem dX12_primary_119 : Dc mX12_primary 119 (.aload_n 0) 1 120 := ⟨zo_42 (by decide +kernel), rfl⟩
theorem dX12_primary_120 : Dc mX12_primary 120 (.getfield 198) 3 123 := ⟨zo_180 (w := 0) (x := 198) (by decide +kernel), rfl⟩
theorem dX12_primary_123 : Dc mX12_primary 123 (.sipush 9999) 3 126 := ⟨zo_17 (w := 39) (x := 15) (by decide +kernel), rfl⟩
theorem dX12_primary_126 : Dc mX12_primary 126 (.if_icmp .le 11) 3 129 := ⟨zo_164 (w := 0) (x := 11) (by decide +kernel), rfl⟩
theorem dX12_primary_129 : Dc mX12_primary 129 (.aload_n 0) 1 130 := ⟨zo_42 (by decide +kernel), rfl⟩
theorem dX12_primary_130 : Dc mX12_primary 130 (.iconst 2) 1 131 := ⟨zo_5 (by decide +kernel), rfl⟩
theorem dX12_primary_131 : Dc mX12_primary 131 (.invokevirtual 232) 3 134 := ⟨zo_182 (w := 0) (x := 232) (by decide +kernel), rfl⟩
theorem dX12_primary_134 : Dc mX12_primary 134 (.goto 28) 3 137 := ⟨zo_167 (w := 0) (x := 28) (by decide +kernel), rfl⟩
theorem dX12_primary_137 : Dc mX12_primary 137 (.iload_n 1) 1 138 := ⟨zo_27 (by decide +kernel), rfl⟩
theorem dX12_primary_138 : Dc mX12_primary 138 (.ifCond .ne 24) 3 141 := ⟨zo_154 (w := 0) (x := 24) (by decide +kernel), rfl⟩
theorem dX12_primary_141 : Dc mX12_primary 141 (.aload_n 0) 1 142 := ⟨zo_42 (by decide +kernel), rfl⟩
theorem dX12_primary_142 : Dc mX12_primary 142 (.getfield 188) 3 145 := ⟨zo_180 (w := 0) (x := 188) (by decide +kernel), rfl⟩
theorem dX12_primary_145 : Dc mX12_primary 145 (.ifCond .ne 12) 3 148 := ⟨zo_154 (w := 0) (x := 12) (by decide +kernel), rfl⟩
theorem dX12_primary_148 : Dc mX12_primary 148 (.aload_n 0) 1 149 := ⟨zo_42 (by decide +kernel), rfl⟩
theorem dX12_primary_149 : Dc mX12_primary 149 (.getfield 198) 3 152 := ⟨zo_180 (w := 0) (x := 198) (by decide +kernel), rfl⟩
theorem dX12_primary_152 : Dc mX12_primary 152 (.bipush 16) 2 154 := ⟨zo_16 (w := 16) (by decide +kernel), rfl⟩
theorem dX12_primary_154 : Dc mX12_primary 154 (.if_icmp .ge 8) 3 157 := ⟨zo_162 (w := 0) (x := 8) (by decide +kernel), rfl⟩
theorem dX12_primary_157 : Dc mX12_primary 157 (.aload_n 0) 1 158 := ⟨zo_42 (by decide +kernel), rfl⟩
theorem dX12_primary_158 : Dc mX12_primary 158 (.iconst 1) 1 159 := ⟨zo_4 (by decide +kernel), rfl⟩
theorem dX12_primary_159 : Dc mX12_primary 159 (.invokevirtual 232) 3 162 := ⟨zo_182 (w := 0) (x := 232) (by decide +kernel), rfl⟩
theorem dX12_primary_162 : Dc mX12_primary 162 (.aload_n 0) 1 163 := ⟨zo_42 (by decide +kernel), rfl⟩
theorem dX12_primary_163 : Dc mX12_primary 163 (.invokevirtual 297) 3 166 := ⟨zo_182 (w := 1) (x := 41) (by decide +kernel), rfl⟩
theorem dX12_primary_166 : Dc mX12_primary 166 (.aload_n 0) 1 167 := ⟨zo_42 (by decide +kernel), rfl⟩
theorem dX12_primary_167 : Dc mX12_primary 167 (.iload_n 1) 1 168 := ⟨zo_27 (by decide +kernel), rfl⟩
theorem dX12_primary_168 : Dc mX12_primary 168 (.ifCond .eq 7) 3 171 := ⟨zo_153 (w := 0) (x := 7) (by decide +kernel), rfl⟩
theorem dX12_primary_171 : Dc mX12_primary 171 (.iconst 0) 1 172 := ⟨zo_3 (by decide +kernel), rfl⟩
theorem dX12_primary_172 : Dc mX12_primary 172 (.goto 4) 3 175 := ⟨zo_167 (w := 0) (x := 4) (by decide +kernel), rfl⟩
theorem dX12_primary_175 : Dc mX12_primary 175 (.iconst 1) 1 176 := ⟨zo_4 (by decide +kernel), rfl⟩
theorem dX12_primary_176 : Dc mX12_primary 176 (.iload_n 1) 1 177 := ⟨zo_27 (by decide +kernel), rfl⟩
theorem dX12_primary_177 : Dc mX12_primary 177 (.ifCond .eq 10) 3 180 := ⟨zo_153 (w := 0) (x := 10) (by decide +kernel), rfl⟩
theorem dX12_primary_180 : Dc mX12_primary 180 (.aload_n 0) 1 181 := ⟨zo_42 (by decide +kernel), rfl⟩
theorem dX12_primary_181 : Dc mX12_primary 181 (.getfield 198) 3 184 := ⟨zo_180 (w := 0) (x := 198) (by decide +kernel), rfl⟩
theorem dX12_primary_184 : Dc mX12_primary 184 (.goto 10) 3 187 := ⟨zo_167 (w := 0) (x := 10) (by decide +kernel), rfl⟩
theorem dX12_primary_187 : Dc mX12_primary 187 (.aload_n 0) 1 188 := ⟨zo_42 (by decide +kernel), rfl⟩
theorem dX12_primary_188 : Dc mX12_primary 188 (.getfield 198) 3 191 := ⟨zo_180 (w := 0) (x := 198) (by decide +kernel), rfl⟩
theorem dX12_primary_191 : Dc mX12_primary 191 (.bipush 16) 2 193 := ⟨zo_16 (w := 16) (by decide +kernel), rfl⟩
theorem dX12_primary_193 : Dc mX12_primary 193 (.isub) 1 194 := ⟨zo_100 (by decide +kernel), rfl⟩
theorem dX12_primary_194 : Dc mX12_primary 194 (.invokevirtual 300) 3 197 := ⟨zo_182 (w := 1) (x := 44) (by decide +kernel), rfl⟩
theorem dX12_primary_197 : Dc mX12_primary 197 (.aload_n 0) 1 198 := ⟨zo_42 (by decide +kernel), rfl⟩
theorem dX12_primary_198 : Dc mX12_primary 198 (.invokevirtual 279) 3 201 := ⟨zo_182 (w := 1) (x := 23) (by decide +kernel), rfl⟩
theorem dX12_primary_201 : Dc mX12_primary 201 (.return_) 1 202 := ⟨zo_177 (by decide +kernel), rfl⟩
theorem dX12_half_0 : Dc mX12_half 0 (.aload_n 0) 1 1 := ⟨zo_42 (by decide +kernel), rfl⟩
theorem dX12_half_1 : Dc mX12_half 1 (.arraylength) 1 2 := ⟨zo_190 (by decide +kernel), rfl⟩
theorem dX12_half_2 : Dc mX12_half 2 (.iconst 2) 1 3 := ⟨zo_5 (by decide +kernel), rfl⟩
theorem dX12_half_3 : Dc mX12_half 3 (.idiv) 1 4 := ⟨zo_108 (by decide +kernel), rfl⟩
theorem dX12_half_4 : Dc mX12_half 4 (.istore_n 1) 1 5 := ⟨zo_60 (by decide +kernel), rfl⟩
theorem dX12_half_5 : Dc mX12_half 5 (.iconst 0) 1 6 := ⟨zo_3 (by decide +kernel), rfl⟩
theorem dX12_half_6 : Dc mX12_half 6 (.istore_n 2) 1 7 := ⟨zo_61 (by decide +kernel), rfl⟩
theorem dX12_half_7 : Dc mX12_half 7 (.iload_n 2) 1 8 := ⟨zo_28 (by decide +kernel), rfl⟩
theorem dX12_half_8 : Dc mX12_half 8 (.iload_n 1) 1 9 := ⟨zo_27 (by decide +kernel), rfl⟩
theorem dX12_half_9 : Dc mX12_half 9 (.if_icmp .ge 17) 3 12 := ⟨zo_162 (w := 0) (x := 17) (by decide +kernel), rfl⟩
theorem dX12_half_12 : Dc mX12_half 12 (.aload_n 0) 1 13 := ⟨zo_42 (by decide +kernel), rfl⟩
theorem dX12_half_13 : Dc mX12_half 13 (.iload_n 2) 1 14 := ⟨zo_28 (by decide +kernel), rfl⟩
theorem dX12_half_14 : Dc mX12_half 14 (.aload_n 0) 1 15 := ⟨zo_42 (by decide +kernel), rfl⟩
theorem dX12_half_15 : Dc mX12_half 15 (.iload_n 1) 1 16 := ⟨zo_27 (by decide +kernel), rfl⟩
theorem dX12_half_16 : Dc mX12_half 16 (.iload_n 2) 1 17 := ⟨zo_28 (by decide +kernel), rfl⟩
theorem dX12_half_17 : Dc mX12_half 17 (.iadd) 1 18 := ⟨zo_96 (by decide +kernel), rfl⟩
theorem dX12_half_18 : Dc mX12_half 18 (.iaload) 1 19 := ⟨zo_46 (by decide +kernel), rfl⟩
theorem dX12_half_19 : Dc mX12_half 19 (.iastore) 1 20 := ⟨zo_79 (by decide +kernel), rfl⟩
theorem dX12_half_20 : Dc mX12_half 20 (.iinc 2 1) 3 23 := ⟨zo_iinc (x := 1) (by decide +kernel), rfl⟩
theorem dX12_half_23 : Dc mX12_half 23 (.goto (-16)) 3 26 := ⟨zo_167 (w := 255) (x := 240) (by decide +kernel), rfl⟩
theorem dX12_half_26 : Dc mX12_half 26 (.return_) 1 27 := ⟨zo_177 (by decide +kernel), rfl⟩
theorem dX12_text_0 : Dc mX12_text 0 (.aload_n 0) 1 1 := ⟨zo_42 (by decide +kernel), rfl⟩
theorem dX12_text_1 : Dc mX12_text 1 (.iconst 0) 1 2 := ⟨zo_3 (by decide +kernel), rfl⟩
theorem dX12_text_2 : Dc mX12_text 2 (.putfield 169) 3 5 := ⟨zo_181 (w := 0) (x := 169) (by decide +kernel), rfl⟩
theorem dX12_text_5 : Dc mX12_text 5 (.iload_n 1) 1 6 := ⟨zo_27 (by decide +kernel), rfl⟩
theorem dX12_text_6 : Dc mX12_text 6 (.ifCond .lt 11) 3 9 := ⟨zo_155 (w := 0) (x := 11) (by decide +kernel), rfl⟩
theorem dX12_text_9 : Dc mX12_text 9 (.iload_n 1) 1 10 := ⟨zo_27 (by decide +kernel), rfl⟩
theorem dX12_text_10 : Dc mX12_text 10 (.aload_n 0) 1 11 := ⟨zo_42 (by decide +kernel), rfl⟩
theorem dX12_text_11 : Dc mX12_text 11 (.getfield 172) 3 14 := ⟨zo_180 (w := 0) (x := 172) (by decide +kernel), rfl⟩
theorem dX12_text_14 : Dc mX12_text 14 (.if_icmp .le 6) 3 17 := ⟨zo_164 (w := 0) (x := 6) (by decide +kernel), rfl⟩
theorem dX12_text_17 : Dc mX12_text 17 (.bipush (-2)) 2 19 := ⟨zo_16 (w := 254) (by decide +kernel), rfl⟩
theorem dX12_text_19 : Dc mX12_text 19 (.ireturn) 1 20 := ⟨zo_172 (by decide +kernel), rfl⟩
theorem dX12_text_20 : Dc mX12_text 20 (.aload_n 0) 1 21 := ⟨zo_42 (by decide +kernel), rfl⟩
theorem dX12_text_21 : Dc mX12_text 21 (.iload_n 1) 1 22 := ⟨zo_27 (by decide +kernel), rfl⟩
theorem dX12_text_22 : Dc mX12_text 22 (.putfield 178) 3 25 := ⟨zo_181 (w := 0) (x := 178) (by decide +kernel), rfl⟩
theorem dX12_text_25 : Dc mX12_text 25 (.aload_n 0) 1 26 := ⟨zo_42 (by decide +kernel), rfl⟩
theorem dX12_text_26 : Dc mX12_text 26 (.iconst 0) 1 27 := ⟨zo_3 (by decide +kernel), rfl⟩
theorem dX12_text_27 : Dc mX12_text 27 (.putfield 172) 3 30 := ⟨zo_181 (w := 0) (x := 172) (by decide +kernel), rfl⟩
theorem dX12_text_30 : Dc mX12_text 30 (.aload_n 0) 1 31 := ⟨zo_42 (by decide +kernel), rfl⟩
theorem dX12_text_31 : Dc mX12_text 31 (.iconst 0) 1 32 := ⟨zo_3 (by decide +kernel), rfl⟩
theorem dX12_text_32 : Dc mX12_text 32 (.putfield 175) 3 35 := ⟨zo_181 (w := 0) (x := 175) (by decide +kernel), rfl⟩
theorem dX12_text_35 : Dc mX12_text 35 (.aload_n 0) 1 36 := ⟨zo_42 (by decide +kernel), rfl⟩
theorem dX12_text_36 : Dc mX12_text 36 (.iconst 0) 1 37 := ⟨zo_3 (by decide +kernel), rfl⟩
theorem dX12_text_37 : Dc mX12_text 37 (.putfield 223) 3 40 := ⟨zo_181 (w := 0) (x := 223) (by decide +kernel), rfl⟩
theorem dX12_text_40 : Dc mX12_text 40 (.aload_n 0) 1 41 := ⟨zo_42 (by decide +kernel), rfl⟩
theorem dX12_text_41 : Dc mX12_text 41 (.iconst (-1)) 1 42 := ⟨zo_2 (by decide +kernel), rfl⟩
theorem dX12_text_42 : Dc mX12_text 42 (.putfield 226) 3 45 := ⟨zo_181 (w := 0) (x := 226) (by decide +kernel), rfl⟩
theorem dX12_text_45 : Dc mX12_text 45 (.iconst 0) 1 46 := ⟨zo_3 (by decide +kernel), rfl⟩
theorem dX12_text_46 : Dc mX12_text 46 (.istore_n 2) 1 47 := ⟨zo_61 (by decide +kernel), rfl⟩
theorem dX12_text_47 : Dc mX12_text 47 (.iload_n 2) 1 48 := ⟨zo_28 (by decide +kernel), rfl⟩
theorem dX12_text_48 : Dc mX12_text 48 (.bipush 10) 2 50 := ⟨zo_16 (w := 10) (by decide +kernel), rfl⟩
theorem dX12_text_50 : Dc mX12_text 50 (.if_icmp .ge 26) 3 53 := ⟨zo_162 (w := 0) (x := 26) (by decide +kernel), rfl⟩
theorem dX12_text_53 : Dc mX12_text 53 (.aload_n 0) 1 54 := ⟨zo_42 (by decide +kernel), rfl⟩
theorem dX12_text_54 : Dc mX12_text 54 (.iload_n 2) 1 55 := ⟨zo_28 (by decide +kernel), rfl⟩
theorem dX12_text_55 : Dc mX12_text 55 (.iload_n 2) 1 56 := ⟨zo_28 (by decide +kernel), rfl⟩
theorem dX12_text_56 : Dc mX12_text 56 (.bipush 7) 2 58 := ⟨zo_16 (w := 7) (by decide +kernel), rfl⟩
theorem dX12_text_58 : Dc mX12_text 58 (.if_icmp .ne 8) 3 61 := ⟨zo_160 (w := 0) (x := 8) (by decide +kernel), rfl⟩
theorem dX12_text_61 : Dc mX12_text 61 (.bipush 99) 2 63 := ⟨zo_16 (w := 99) (by decide +kernel), rfl⟩
theorem dX12_text_63 : Dc mX12_text 63 (.goto 4) 3 66 := ⟨zo_167 (w := 0) (x := 4) (by decide +kernel), rfl⟩
theorem dX12_text_66 : Dc mX12_text 66 (.iconst 0) 1 67 := ⟨zo_3 (by decide +kernel), rfl⟩
theorem dX12_text_67 : Dc mX12_text 67 (.invokevirtual 260) 3 70 := ⟨zo_182 (w := 1) (x := 4) (by decide +kernel), rfl⟩
theorem dX12_text_70 : Dc mX12_text 70 (.iinc 2 1) 3 73 := ⟨zo_iinc (x := 1) (by decide +kernel), rfl⟩
theorem dX12_text_73 : Dc mX12_text 73 (.goto (-26)) 3 76 := ⟨zo_167 (w := 255) (x := 230) (by decide +kernel), rfl⟩
theorem dX12_text_76 : Dc mX12_text 76 (.bipush 48) 2 78 := ⟨zo_16 (w := 48) (by decide +kernel), rfl⟩
theorem dX12_text_78 : Dc mX12_text 78 (.istore_n 2) 1 79 := ⟨zo_61 (by decide +kernel), rfl⟩
theorem dX12_text_79 : Dc mX12_text 79 (.iload_n 2) 1 80 := ⟨zo_28 (by decide +kernel), rfl⟩
theorem dX12_text_80 : Dc mX12_text 80 (.bipush 96) 2 82 := ⟨zo_16 (w := 96) (by decide +kernel), rfl⟩
theorem dX12_text_82 : Dc mX12_text 82 (.if_icmp .ge 16) 3 85 := ⟨zo_162 (w := 0) (x := 16) (by decide +kernel), rfl⟩
theorem dX12_text_85 : Dc mX12_text 85 (.aload_n 0) 1 86 := ⟨zo_42 (by decide +kernel), rfl⟩
theorem dX12_text_86 : Dc mX12_text 86 (.getfield 34) 3 89 := ⟨zo_180 (w := 0) (x := 34) (by decide +kernel), rfl⟩
theorem dX12_text_89 : Dc mX12_text 89 (.iload_n 2) 1 90 := ⟨zo_28 (by decide +kernel), rfl⟩
theorem dX12_text_90 : Dc mX12_text 90 (.iconst (-1)) 1 91 := ⟨zo_2 (by decide +kernel), rfl⟩
theorem dX12_text_91 : Dc mX12_text 91 (.iastore) 1 92 := ⟨zo_79 (by decide +kernel), rfl⟩
theorem dX12_text_92 : Dc mX12_text 92 (.iinc 2 1) 3 95 := ⟨zo_iinc (x := 1) (by decide +kernel), rfl⟩
theorem dX12_text_95 : Dc mX12_text 95 (.goto (-16)) 3 98 := ⟨zo_167 (w := 255) (x := 240) (by decide +kernel), rfl⟩
theorem dX12_text_98 : Dc mX12_text 98 (.iconst 3) 1 99 := ⟨zo_6 (by decide +kernel), rfl⟩
theorem dX12_text_99 : Dc mX12_text 99 (.istore_n 2) 1 100 := ⟨zo_61 (by decide +kernel), rfl⟩
theorem dX12_text_100 : Dc mX12_text 100 (.iload_n 2) 1 101 := ⟨zo_28 (by decide +kernel), rfl⟩
theorem dX12_text_101 : Dc mX12_text 101 (.bipush 6) 2 103 := ⟨zo_16 (w := 6) (by decide +kernel), rfl⟩
theorem dX12_text_103 : Dc mX12_text 103 (.if_icmp .ge 23) 3 106 := ⟨zo_162 (w := 0) (x := 23) (by decide +kernel), rfl⟩
theorem dX12_text_106 : Dc mX12_text 106 (.aload_n 0) 1 107 := ⟨zo_42 (by decide +kernel), rfl⟩
theorem dX12_text_107 : Dc mX12_text 107 (.getfield 61) 3 110 := ⟨zo_180 (w := 0) (x := 61) (by decide +kernel), rfl⟩
theorem dX12_text_110 : Dc mX12_text 110 (.iload_n 2) 1 111 := ⟨zo_28 (by decide +kernel), rfl⟩
theorem dX12_text_111 : Dc mX12_text 111 (.iconst 0) 1 112 := ⟨zo_3 (by decide +kernel), rfl⟩
theorem dX12_text_112 : Dc mX12_text 112 (.iastore) 1 113 := ⟨zo_79 (by decide +kernel), rfl⟩
theorem dX12_text_113 : Dc mX12_text 113 (.aload_n 0) 1 114 := ⟨zo_42 (by decide +kernel), rfl⟩
theorem dX12_text_114 : Dc mX12_text 114 (.getfield 64) 3 117 := ⟨zo_180 (w := 0) (x := 64) (by decide +kernel), rfl⟩
theorem dX12_text_117 : Dc mX12_text 117 (.iload_n 2) 1 118 := ⟨zo_28 (by decide +kernel), rfl⟩
theorem dX12_text_118 : Dc mX12_text 118 (.iconst 0) 1 119 := ⟨zo_3 (by decide +kernel), rfl⟩
theorem dX12_text_119 : Dc mX12_text 119 (.iastore) 1 120 := ⟨zo_79 (by decide +kernel), rfl⟩
theorem dX12_text_120 : Dc mX12_text 120 (.iinc 2 1) 3 123 := ⟨zo_iinc (x := 1) (by decide +kernel), rfl⟩
theorem dX12_text_123 : Dc mX12_text 123 (.goto (-23)) 3 126 := ⟨zo_167 (w := 255) (x := 233) (by decide +kernel), rfl⟩
theorem dX12_text_126 : Dc mX12_text 126 (.aload_n 0) 1 127 := ⟨zo_42 (by decide +kernel), rfl⟩
theorem dX12_text_127 : Dc mX12_text 127 (.iconst 0) 1 128 := ⟨zo_3 (by decide +kernel), rfl⟩
theorem dX12_text_128 : Dc mX12_text 128 (.putfield 250) 3 131 := ⟨zo_181 (w := 0) (x := 250) (by decide +kernel), rfl⟩
theorem dX12_text_131 : Dc mX12_text 131 (.aload_n 0) 1 132 := ⟨zo_42 (by decide +kernel), rfl⟩
theorem dX12_text_132 : Dc mX12_text 132 (.iconst 0) 1 133 := ⟨zo_3 (by decide +kernel), rfl⟩
theorem dX12_text_133 : Dc mX12_text 133 (.putfield 276) 3 136 := ⟨zo_181 (w := 1) (x := 20) (by decide +kernel), rfl⟩
theorem dX12_text_136 : Dc mX12_text 136 (.aload_n 0) 1 137 := ⟨zo_42 (by decide +kernel), rfl⟩
theorem dX12_text_137 : Dc mX12_text 137 (.iconst 0) 1 138 := ⟨zo_3 (by decide +kernel), rfl⟩
theorem dX12_text_138 : Dc mX12_text 138 (.putfield 315) 3 141 := ⟨zo_181 (w := 1) (x := 59) (by decide +kernel), rfl⟩
theorem dX12_text_141 : Dc mX12_text 141 (.aload_n 0) 1 142 := ⟨zo_42 (by decide +kernel), rfl⟩
theorem dX12_text_142 : Dc mX12_text 142 (.iconst 0) 1 143 := ⟨zo_3 (by decide +kernel), rfl⟩
theorem dX12_text_143 : Dc mX12_text 143 (.putfield 288) 3 146 := ⟨zo_181 (w := 1) (x := 32) (by decide +kernel), rfl⟩
theorem dX12_text_146 : Dc mX12_text 146 (.aload_n 0) 1 147 := ⟨zo_42 (by decide +kernel), rfl⟩
theorem dX12_text_147 : Dc mX12_text 147 (.invokevirtual 229) 3 150 := ⟨zo_182 (w := 0) (x := 229) (by decide +kernel), rfl⟩
theorem dX12_text_150 : Dc mX12_text 150 (.aload_n 0) 1 151 := ⟨zo_42 (by decide +kernel), rfl⟩
theorem dX12_text_151 : Dc mX12_text 151 (.getfield 223) 3 154 := ⟨zo_180 (w := 0) (x := 223) (by decide +kernel), rfl⟩
theorem dX12_text_154 : Dc mX12_text 154 (.ifCond .ne 18) 3 157 := ⟨zo_154 (w := 0) (x := 18) (by decide +kernel), rfl⟩
theorem dX12_text_157 : Dc mX12_text 157 (.aload_n 0) 1 158 := ⟨zo_42 (by decide +kernel), rfl⟩
theorem dX12_text_158 : Dc mX12_text 158 (.getfield 188) 3 161 := ⟨zo_180 (w := 0) (x := 188) (by decide +kernel), rfl⟩
theorem dX12_text_161 : Dc mX12_text 161 (.iconst 4) 1 162 := ⟨zo_7 (by decide +kernel), rfl⟩
theorem dX12_text_162 : Dc mX12_text 162 (.if_icmp .eq 10) 3 165 := ⟨zo_159 (w := 0) (x := 10) (by decide +kernel), rfl⟩
theorem dX12_text_165 : Dc mX12_text 165 (.aload_n 0) 1 166 := ⟨zo_42 (by decide +kernel), rfl⟩
theorem dX12_text_166 : Dc mX12_text 166 (.invokevirtual 318) 3 169 := ⟨zo_182 (w := 1) (x := 62) (by decide +kernel), rfl⟩
theorem dX12_text_169 : Dc mX12_text 169 (.goto (-19)) 3 172 := ⟨zo_167 (w := 255) (x := 237) (by decide +kernel), rfl⟩
theorem dX12_text_172 : Dc mX12_text 172 (.aload_n 0) 1 173 := ⟨zo_42 (by decide +kernel), rfl⟩
theorem dX12_text_173 : Dc mX12_text 173 (.aload_n 0) 1 174 := ⟨zo_42 (by decide +kernel), rfl⟩
theorem dX12_text_174 : Dc mX12_text 174 (.getfield 223) 3 177 := ⟨zo_180 (w := 0) (x := 223) (by decide +kernel), rfl⟩
theorem dX12_text_177 : Dc mX12_text 177 (.putfield 321) 3 180 := ⟨zo_181 (w := 1) (x := 65) (by decide +kernel), rfl⟩
theorem dX12_text_180 : Dc mX12_text 180 (.aload_n 0) 1 181 := ⟨zo_42 (by decide +kernel), rfl⟩
theorem dX12_text_181 : Dc mX12_text 181 (.aload_n 0) 1 182 := ⟨zo_42 (by decide +kernel), rfl⟩
theorem dX12_text_182 : Dc mX12_text 182 (.getfield 226) 3 185 := ⟨zo_180 (w := 0) (x := 226) (by decide +kernel), rfl⟩
theorem dX12_text_185 : Dc mX12_text 185 (.putfield 73) 3 188 := ⟨zo_181 (w := 0) (x := 73) (by decide +kernel), rfl⟩
theorem dX12_text_188 : Dc mX12_text 188 (.aload_n 0) 1 189 := ⟨zo_42 (by decide +kernel), rfl⟩
theorem dX12_text_189 : Dc mX12_text 189 (.getfield 223) 3 192 := ⟨zo_180 (w := 0) (x := 223) (by decide +kernel), rfl⟩
theorem dX12_text_192 : Dc mX12_text 192 (.ifCond .eq 5) 3 195 := ⟨zo_153 (w := 0) (x := 5) (by decide +kernel), rfl⟩
theorem dX12_text_195 : Dc mX12_text 195 (.iconst (-1)) 1 196 := ⟨zo_2 (by decide +kernel), rfl⟩
theorem dX12_text_196 : Dc mX12_text 196 (.ireturn) 1 197 := ⟨zo_172 (by decide +kernel), rfl⟩
theorem dX12_text_197 : Dc mX12_text 197 (.aload_n 0) 1 198 := ⟨zo_42 (by decide +kernel), rfl⟩
theorem dX12_text_198 : Dc mX12_text 198 (.getfield 13) 3 201 := ⟨zo_180 (w := 0) (x := 13) (by decide +kernel), rfl⟩
theorem dX12_text_201 : Dc mX12_text 201 (.invokestatic 324) 3 204 := ⟨zo_184 (w := 1) (x := 68) (by decide +kernel), rfl⟩
theorem dX12_text_204 : Dc mX12_text 204 (.aload_n 0) 1 205 := ⟨zo_42 (by decide +kernel), rfl⟩
theorem dX12_text_205 : Dc mX12_text 205 (.getfield 16) 3 208 := ⟨zo_180 (w := 0) (x := 16) (by decide +kernel), rfl⟩
theorem dX12_text_208 : Dc mX12_text 208 (.invokestatic 324) 3 211 := ⟨zo_184 (w := 1) (x := 68) (by decide +kernel), rfl⟩
theorem dX12_text_211 : Dc mX12_text 211 (.aload_n 0) 1 212 := ⟨zo_42 (by decide +kernel), rfl⟩
theorem dX12_text_212 : Dc mX12_text 212 (.getfield 19) 3 215 := ⟨zo_180 (w := 0) (x := 19) (by decide +kernel), rfl⟩
theorem dX12_text_215 : Dc mX12_text 215 (.invokestatic 324) 3 218 := ⟨zo_184 (w := 1) (x := 68) (by decide +kernel), rfl⟩
theorem dX12_text_218 : Dc mX12_text 218 (.aload_n 0) 1 219 := ⟨zo_42 (by decide +kernel), rfl⟩
theorem dX12_text_219 : Dc mX12_text 219 (.getfield 22) 3 222 := ⟨zo_180 (w := 0) (x := 22) (by decide +kernel), rfl⟩
theorem dX12_text_222 : Dc mX12_text 222 (.invokestatic 324) 3 225 := ⟨zo_184 (w := 1) (x := 68) (by decide +kernel), rfl⟩
theorem dX12_text_225 : Dc mX12_text 225 (.aload_n 0) 1 226 := ⟨zo_42 (by decide +kernel), rfl⟩
theorem dX12_text_226 : Dc mX12_text 226 (.getfield 25) 3 229 := ⟨zo_180 (w := 0) (x := 25) (by decide +kernel), rfl⟩
theorem dX12_text_229 : Dc mX12_text 229 (.invokestatic 324) 3 232 := ⟨zo_184 (w := 1) (x := 68) (by decide +kernel), rfl⟩
theorem dX12_text_232 : Dc mX12_text 232 (.aload_n 0) 1 233 := ⟨zo_42 (by decide +kernel), rfl⟩
theorem dX12_text_233 : Dc mX12_text 233 (.getfield 28) 3 236 := ⟨zo_180 (w := 0) (x := 28) (by decide +kernel), rfl⟩
theorem dX12_text_236 : Dc mX12_text 236 (.invokestatic 324) 3 239 := ⟨zo_184 (w := 1) (x := 68) (by decide +kernel), rfl⟩
theorem dX12_text_239 : Dc mX12_text 239 (.aload_n 0) 1 240 := ⟨zo_42 (by decide +kernel), rfl⟩
theorem dX12_text_240 : Dc mX12_text 240 (.getfield 31) 3 243 := ⟨zo_180 (w := 0) (x := 31) (by decide +kernel), rfl⟩
theorem dX12_text_243 : Dc mX12_text 243 (.invokestatic 324) 3 246 := ⟨zo_184 (w := 1) (x := 68) (by decide +kernel), rfl⟩
theorem dX12_text_246 : Dc mX12_text 246 (.aload_n 0) 1 247 := ⟨zo_42 (by decide +kernel), rfl⟩
theorem dX12_text_247 : Dc mX12_text 247 (.getfield 34) 3 250 := ⟨zo_180 (w := 0) (x := 34) (by decide +kernel), rfl⟩
theorem dX12_text_250 : Dc mX12_text 250 (.invokestatic 324) 3 253 := ⟨zo_184 (w := 1) (x := 68) (by decide +kernel), rfl⟩
theorem dX12_text_253 : Dc mX12_text 253 (.aload_n 0) 1 254 := ⟨zo_42 (by decide +kernel), rfl⟩
theorem dX12_text_254 : Dc mX12_text 254 (.getfield 37) 3 257 := ⟨zo_180 (w := 0) (x := 37) (by decide +kernel), rfl⟩
theorem dX12_text_257 : Dc mX12_text 257 (.invokestatic 324) 3 260 := ⟨zo_184 (w := 1) (x := 68) (by decide +kernel), rfl⟩
theorem dX12_text_260 : Dc mX12_text 260 (.aload_n 0) 1 261 := ⟨zo_42 (by decide +kernel), rfl⟩
theorem dX12_text_261 : Dc mX12_text 261 (.getfield 40) 3 264 := ⟨zo_180 (w := 0) (x := 40) (by decide +kernel), rfl⟩
theorem dX12_text_264 : Dc mX12_text 264 (.invokestatic 324) 3 267 := ⟨zo_184 (w := 1) (x := 68) (by decide +kernel), rfl⟩
theorem dX12_text_267 : Dc mX12_text 267 (.aload_n 0) 1 268 := ⟨zo_42 (by decide +kernel), rfl⟩
theorem dX12_text_268 : Dc mX12_text 268 (.getfield 43) 3 271 := ⟨zo_180 (w := 0) (x := 43) (by decide +kernel), rfl⟩
theorem dX12_text_271 : Dc mX12_text 271 (.invokestatic 324) 3 274 := ⟨zo_184 (w := 1) (x := 68) (by decide +kernel), rfl⟩
theorem dX12_text_274 : Dc mX12_text 274 (.aload_n 0) 1 275 := ⟨zo_42 (by decide +kernel), rfl⟩
theorem dX12_text_275 : Dc mX12_text 275 (.getfield 46) 3 278 := ⟨zo_180 (w := 0) (x := 46) (by decide +kernel), rfl⟩
theorem dX12_text_278 : Dc mX12_text 278 (.invokestatic 324) 3 281 := ⟨zo_184 (w := 1) (x := 68) (by decide +kernel), rfl⟩
theorem dX12_text_281 : Dc mX12_text 281 (.aload_n 0) 1 282 := ⟨zo_42 (by decide +kernel), rfl⟩
theorem dX12_text_282 : Dc mX12_text 282 (.getfield 49) 3 285 := ⟨zo_180 (w := 0) (x := 49) (by decide +kernel), rfl⟩
theorem dX12_text_285 : Dc mX12_text 285 (.invokestatic 324) 3 288 := ⟨zo_184 (w := 1) (x := 68) (by decide +kernel), rfl⟩
theorem dX12_text_288 : Dc mX12_text 288 (.aload_n 0) 1 289 := ⟨zo_42 (by decide +kernel), rfl⟩
theorem dX12_text_289 : Dc mX12_text 289 (.getfield 52) 3 292 := ⟨zo_180 (w := 0) (x := 52) (by decide +kernel), rfl⟩
theorem dX12_text_292 : Dc mX12_text 292 (.invokestatic 324) 3 295 := ⟨zo_184 (w := 1) (x := 68) (by decide +kernel), rfl⟩
theorem dX12_text_295 : Dc mX12_text 295 (.aload_n 0) 1 296 := ⟨zo_42 (by decide +kernel), rfl⟩
theorem dX12_text_296 : Dc mX12_text 296 (.getfield 55) 3 299 := ⟨zo_180 (w := 0) (x := 55) (by decide +kernel), rfl⟩
theorem dX12_text_299 : Dc mX12_text 299 (.invokestatic 324) 3 302 := ⟨zo_184 (w := 1) (x := 68) (by decide +kernel), rfl⟩
theorem dX12_text_302 : Dc mX12_text 302 (.aload_n 0) 1 303 := ⟨zo_42 (by decide +kernel), rfl⟩
theorem dX12_text_303 : Dc mX12_text 303 (.getfield 58) 3 306 := ⟨zo_180 (w := 0) (x := 58) (by decide +kernel), rfl⟩
theorem dX12_text_306 : Dc mX12_text 306 (.invokestatic 324) 3 309 := ⟨zo_184 (w := 1) (x := 68) (by decide +kernel), rfl⟩
theorem dX12_text_309 : Dc mX12_text 309 (.aload_n 0) 1 310 := ⟨zo_42 (by decide +kernel), rfl⟩
theorem dX12_text_310 : Dc mX12_text 310 (.getfield 61) 3 313 := ⟨zo_180 (w := 0) (x := 61) (by decide +kernel), rfl⟩
theorem dX12_text_313 : Dc mX12_text 313 (.invokestatic 324) 3 316 := ⟨zo_184 (w := 1) (x := 68) (by decide +kernel), rfl⟩
theorem dX12_text_316 : Dc mX12_text 316 (.aload_n 0) 1 317 := ⟨zo_42 (by decide +kernel), rfl⟩
theorem dX12_text_317 : Dc mX12_text 317 (.getfield 64) 3 320 := ⟨zo_180 (w := 0) (x := 64) (by decide +kernel), rfl⟩
theorem dX12_text_320 : Dc mX12_text 320 (.invokestatic 324) 3 323 := ⟨zo_184 (w := 1) (x := 68) (by decide +kernel), rfl⟩
theorem dX12_text_323 : Dc mX12_text 323 (.aload_n 0) 1 324 := ⟨zo_42 (by decide +kernel), rfl⟩
theorem dX12_text_324 : Dc mX12_text 324 (.getfield 67) 3 327 := ⟨zo_180 (w := 0) (x := 67) (by decide +kernel), rfl⟩
theorem dX12_text_327 : Dc mX12_text 327 (.invokestatic 324) 3 330 := ⟨zo_184 (w := 1) (x := 68) (by decide +kernel), rfl⟩
theorem dX12_text_330 : Dc mX12_text 330 (.aload_n 0) 1 331 := ⟨zo_42 (by decide +kernel), rfl⟩
theorem dX12_text_331 : Dc mX12_text 331 (.getfield 70) 3 334 := ⟨zo_180 (w := 0) (x := 70) (by decide +kernel), rfl⟩
theorem dX12_text_334 : Dc mX12_text 334 (.invokestatic 324) 3 337 := ⟨zo_184 (w := 1) (x := 68) (by decide +kernel), rfl⟩
theorem dX12_text_337 : Dc mX12_text 337 (.aload_n 0) 1 338 := ⟨zo_42 (by decide +kernel), rfl⟩
theorem dX12_text_338 : Dc mX12_text 338 (.iconst 0) 1 339 := ⟨zo_3 (by decide +kernel), rfl⟩
theorem dX12_text_339 : Dc mX12_text 339 (.putfield 328) 3 342 := ⟨zo_181 (w := 1) (x := 72) (by decide +kernel), rfl⟩
theorem dX12_text_342 : Dc mX12_text 342 (.aload_n 0) 1 343 := ⟨zo_42 (by decide +kernel), rfl⟩
theorem dX12_text_343 : Dc mX12_text 343 (.iconst (-1)) 1 344 := ⟨zo_2 (by decide +kernel), rfl⟩
theorem dX12_text_344 : Dc mX12_text 344 (.putfield 147) 3 347 := ⟨zo_181 (w := 0) (x := 147) (by decide +kernel), rfl⟩
theorem dX12_text_347 : Dc mX12_text 347 (.aload_n 0) 1 348 := ⟨zo_42 (by decide +kernel), rfl⟩
theorem dX12_text_348 : Dc mX12_text 348 (.iconst 0) 1 349 := ⟨zo_3 (by decide +kernel), rfl⟩
theorem dX12_text_349 : Dc mX12_text 349 (.putfield 331) 3 352 := ⟨zo_181 (w := 1) (x := 75) (by decide +kernel), rfl⟩
theorem dX12_text_352 : Dc mX12_text 352 (.aload_n 0) 1 353 := ⟨zo_42 (by decide +kernel), rfl⟩
theorem dX12_text_353 : Dc mX12_text 353 (.iconst 0) 1 354 := ⟨zo_3 (by decide +kernel), rfl⟩
theorem dX12_text_354 : Dc mX12_text 354 (.putfield 335) 3 357 := ⟨zo_181 (w := 1) (x := 79) (by decide +kernel), rfl⟩
theorem dX12_text_357 : Dc mX12_text 357 (.aload_n 0) 1 358 := ⟨zo_42 (by decide +kernel), rfl⟩
theorem dX12_text_358 : Dc mX12_text 358 (.invokevirtual 166) 3 361 := ⟨zo_182 (w := 0) (x := 166) (by decide +kernel), rfl⟩
theorem dX12_text_361 : Dc mX12_text 361 (.aload_n 0) 1 362 := ⟨zo_42 (by decide +kernel), rfl⟩
theorem dX12_text_362 : Dc mX12_text 362 (.getfield 276) 3 365 := ⟨zo_180 (w := 1) (x := 20) (by decide +kernel), rfl⟩
theorem dX12_text_365 : Dc mX12_text 365 (.ireturn) 1 366 := ⟨zo_172 (by decide +kernel), rfl⟩
theorem dX12_fault_0 : Dc mX12_fault 0 (.aload_n 0) 1 1 := ⟨zo_42 (by decide +kernel), rfl⟩
theorem dX12_fault_1 : Dc mX12_fault 1 (.iconst 0) 1 2 := ⟨zo_3 (by decide +kernel), rfl⟩
theorem dX12_fault_2 : Dc mX12_fault 2 (.putfield 169) 3 5 := ⟨zo_181 (w := 0) (x := 169) (by decide +kernel), rfl⟩
theorem dX12_fault_5 : Dc mX12_fault 5 (.iload_n 1) 1 6 := ⟨zo_27 (by decide +kernel), rfl⟩
theorem dX12_fault_6 : Dc mX12_fault 6 (.ifCond .ne 10) 3 9 := ⟨zo_154 (w := 0) (x := 10) (by decide +kernel), rfl⟩
theorem dX12_fault_9 : Dc mX12_fault 9 (.aload_n 0) 1 10 := ⟨zo_42 (by decide +kernel), rfl⟩
theorem dX12_fault_10 : Dc mX12_fault 10 (.getfield 321) 3 13 := ⟨zo_180 (w := 1) (x := 65) (by decide +kernel), rfl⟩
theorem dX12_fault_13 : Dc mX12_fault 13 (.goto 16) 3 16 := ⟨zo_167 (w := 0) (x := 16) (by decide +kernel), rfl⟩
theorem dX12_fault_16 : Dc mX12_fault 16 (.iload_n 1) 1 17 := ⟨zo_27 (by decide +kernel), rfl⟩
theorem dX12_fault_17 : Dc mX12_fault 17 (.iconst 1) 1 18 := ⟨zo_4 (by decide +kernel), rfl⟩
theorem dX12_fault_18 : Dc mX12_fault 18 (.if_icmp .ne 10) 3 21 := ⟨zo_160 (w := 0) (x := 10) (by decide +kernel), rfl⟩
theorem dX12_fault_21 : Dc mX12_fault 21 (.aload_n 0) 1 22 := ⟨zo_42 (by decide +kernel), rfl⟩
theorem dX12_fault_22 : Dc mX12_fault 22 (.getfield 73) 3 25 := ⟨zo_180 (w := 0) (x := 73) (by decide +kernel), rfl⟩
theorem dX12_fault_25 : Dc mX12_fault 25 (.goto 4) 3 28 := ⟨zo_167 (w := 0) (x := 4) (by decide +kernel), rfl⟩
theorem dX12_fault_28 : Dc mX12_fault 28 (.iconst (-1)) 1 29 := ⟨zo_2 (by decide +kernel), rfl⟩
theorem dX12_fault_29 : Dc mX12_fault 29 (.ireturn) 1 30 := ⟨zo_172 (by decide +kernel), rfl⟩
theorem dX12_named_0 : Dc mX12_named 0 (.aload_n 0) 1 1 := ⟨zo_42 (by decide +kernel), rfl⟩
theorem dX12_named_1 : Dc mX12_named 1 (.iconst 0) 1 2 := ⟨zo_3 (by decide +kernel), rfl⟩
theorem dX12_named_2 : Dc mX12_named 2 (.putfield 169) 3 5 := ⟨zo_181 (w := 0) (x := 169) (by decide +kernel), rfl⟩
theorem dX12_named_5 : Dc mX12_named 5 (.iload_n 1) 1 6 := ⟨zo_27 (by decide +kernel), rfl⟩
theorem dX12_named_6 : Dc mX12_named 6 (.tableswitch 94 0 3 #[30, 46, 62, 78]) 30 36 := ⟨by decide +kernel, rfl⟩
theorem dX12_named_36 : Dc mX12_named 36 (.aload_n 0) 1 37 := ⟨zo_42 (by decide +kernel), rfl⟩
theorem dX12_named_37 : Dc mX12_named 37 (.getfield 16) 3 40 := ⟨zo_180 (w := 0) (x := 16) (by decide +kernel), rfl⟩
theorem dX12_named_40 : Dc mX12_named 40 (.iconst 0) 1 41 := ⟨zo_3 (by decide +kernel), rfl⟩
theorem dX12_named_41 : Dc mX12_named 41 (.aload_n 0) 1 42 := ⟨zo_42 (by decide +kernel), rfl⟩
theorem dX12_named_42 : Dc mX12_named 42 (.getfield 13) 3 45 := ⟨zo_180 (w := 0) (x := 13) (by decide +kernel), rfl⟩
theorem dX12_named_45 : Dc mX12_named 45 (.iconst 0) 1 46 := ⟨zo_3 (by decide +kernel), rfl⟩
theorem dX12_named_46 : Dc mX12_named 46 (.iaload) 1 47 := ⟨zo_46 (by decide +kernel), rfl⟩
theorem dX12_named_47 : Dc mX12_named 47 (.iload_n 2) 1 48 := ⟨zo_28 (by decide +kernel), rfl⟩
theorem dX12_named_48 : Dc mX12_named 48 (.invokestatic 235) 3 51 := ⟨zo_184 (w := 0) (x := 235) (by decide +kernel), rfl⟩
theorem dX12_named_51 : Dc mX12_named 51 (.ireturn) 1 52 := ⟨zo_172 (by decide +kernel), rfl⟩
theorem dX12_named_52 : Dc mX12_named 52 (.aload_n 0) 1 53 := ⟨zo_42 (by decide +kernel), rfl⟩
theorem dX12_named_53 : Dc mX12_named 53 (.getfield 25) 3 56 := ⟨zo_180 (w := 0) (x := 25) (by decide +kernel), rfl⟩
theorem dX12_named_56 : Dc mX12_named 56 (.iconst 0) 1 57 := ⟨zo_3 (by decide +kernel), rfl⟩
theorem dX12_named_57 : Dc mX12_named 57 (.aload_n 0) 1 58 := ⟨zo_42 (by decide +kernel), rfl⟩
theorem dX12_named_58 : Dc mX12_named 58 (.getfield 13) 3 61 := ⟨zo_180 (w := 0) (x := 13) (by decide +kernel), rfl⟩
theorem dX12_named_61 : Dc mX12_named 61 (.iconst 1) 1 62 := ⟨zo_4 (by decide +kernel), rfl⟩
theorem dX12_named_62 : Dc mX12_named 62 (.iaload) 1 63 := ⟨zo_46 (by decide +kernel), rfl⟩
theorem dX12_named_63 : Dc mX12_named 63 (.iload_n 2) 1 64 := ⟨zo_28 (by decide +kernel), rfl⟩
theorem dX12_named_64 : Dc mX12_named 64 (.invokestatic 235) 3 67 := ⟨zo_184 (w := 0) (x := 235) (by decide +kernel), rfl⟩
theorem dX12_named_67 : Dc mX12_named 67 (.ireturn) 1 68 := ⟨zo_172 (by decide +kernel), rfl⟩
theorem dX12_named_68 : Dc mX12_named 68 (.aload_n 0) 1 69 := ⟨zo_42 (by decide +kernel), rfl⟩
theorem dX12_named_69 : Dc mX12_named 69 (.getfield 37) 3 72 := ⟨zo_180 (w := 0) (x := 37) (by decide +kernel), rfl⟩
theorem dX12_named_72 : Dc mX12_named 72 (.iconst 0) 1 73 := ⟨zo_3 (by decide +kernel), rfl⟩
theorem dX12_named_73 : Dc mX12_named 73 (.aload_n 0) 1 74 := ⟨zo_42 (by decide +kernel), rfl⟩
theorem dX12_named_74 : Dc mX12_named 74 (.getfield 13) 3 77 := ⟨zo_180 (w := 0) (x := 13) (by decide +kernel), rfl⟩
theorem dX12_named_77 : Dc mX12_named 77 (.iconst 3) 1 78 := ⟨zo_6 (by decide +kernel), rfl⟩
theorem dX12_named_78 : Dc mX12_named 78 (.iaload) 1 79 := ⟨zo_46 (by decide +kernel), rfl⟩
theorem dX12_named_79 : Dc mX12_named 79 (.iload_n 2) 1 80 := ⟨zo_28 (by decide +kernel), rfl⟩
theorem dX12_named_80 : Dc mX12_named 80 (.invokestatic 235) 3 83 := ⟨zo_184 (w := 0) (x := 235) (by decide +kernel), rfl⟩
theorem dX12_named_83 : Dc mX12_named 83 (.ireturn) 1 84 := ⟨zo_172 (by decide +kernel), rfl⟩
theorem dX12_named_84 : Dc mX12_named 84 (.aload_n 0) 1 85 := ⟨zo_42 (by decide +kernel), rfl⟩
theorem dX12_named_85 : Dc mX12_named 85 (.getfield 49) 3 88 := ⟨zo_180 (w := 0) (x := 49) (by decide +kernel), rfl⟩
theorem dX12_named_88 : Dc mX12_named 88 (.iconst 0) 1 89 := ⟨zo_3 (by decide +kernel), rfl⟩
theorem dX12_named_89 : Dc mX12_named 89 (.aload_n 0) 1 90 := ⟨zo_42 (by decide +kernel), rfl⟩
theorem dX12_named_90 : Dc mX12_named 90 (.getfield 13) 3 93 := ⟨zo_180 (w := 0) (x := 13) (by decide +kernel), rfl⟩
theorem dX12_named_93 : Dc mX12_named 93 (.iconst 4) 1 94 := ⟨zo_7 (by decide +kernel), rfl⟩
theorem dX12_named_94 : Dc mX12_named 94 (.iaload) 1 95 := ⟨zo_46 (by decide +kernel), rfl⟩
theorem dX12_named_95 : Dc mX12_named 95 (.iload_n 2) 1 96 := ⟨zo_28 (by decide +kernel), rfl⟩
theorem dX12_named_96 : Dc mX12_named 96 (.invokestatic 235) 3 99 := ⟨zo_184 (w := 0) (x := 235) (by decide +kernel), rfl⟩
theorem dX12_named_99 : Dc mX12_named 99 (.ireturn) 1 100 := ⟨zo_172 (by decide +kernel), rfl⟩
theorem dX12_named_100 : Dc mX12_named 100 (.iconst (-1)) 1 101 := ⟨zo_2 (by decide +kernel), rfl⟩
theorem dX12_named_101 : Dc mX12_named 101 (.ireturn) 1 102 := ⟨zo_172 (by decide +kernel), rfl⟩
theorem dX12_is_0 : Dc mX12_is 0 (.iload_n 0) 1 1 := ⟨zo_26 (by decide +kernel), rfl⟩
theorem dX12_is_1 : Dc mX12_is 1 (.ifCond .eq 7) 3 4 := ⟨zo_153 (w := 0) (x := 7) (by decide +kernel), rfl⟩
theorem dX12_is_4 : Dc mX12_is 4 (.lconst 1) 1 5 := ⟨zo_10 (by decide +kernel), rfl⟩
theorem dX12_is_5 : Dc mX12_is 5 (.goto 4) 3 8 := ⟨zo_167 (w := 0) (x := 4) (by decide +kernel), rfl⟩
theorem dX12_is_8 : Dc mX12_is 8 (.lconst 0) 1 9 := ⟨zo_9 (by decide +kernel), rfl⟩
theorem dX12_is_9 : Dc mX12_is 9 (.lreturn) 1 10 := ⟨zo_173 (by decide +kernel), rfl⟩
theorem dX12_works_0 : Dc mX12_works 0 (.aload_n 0) 1 1 := ⟨zo_42 (by decide +kernel), rfl⟩
theorem dX12_works_1 : Dc mX12_works 1 (.getfield 81) 3 4 := ⟨zo_180 (w := 0) (x := 81) (by decide +kernel), rfl⟩
theorem dX12_works_4 : Dc mX12_works 4 (.aload_n 0) 1 5 := ⟨zo_42 (by decide +kernel), rfl⟩
theorem dX12_works_5 : Dc mX12_works 5 (.getfield 338) 3 8 := ⟨zo_180 (w := 1) (x := 82) (by decide +kernel), rfl⟩
theorem dX12_works_8 : Dc mX12_works 8 (.iconst 1) 1 9 := ⟨zo_4 (by decide +kernel), rfl⟩
theorem dX12_works_9 : Dc mX12_works 9 (.isub) 1 10 := ⟨zo_100 (by decide +kernel), rfl⟩
theorem dX12_works_10 : Dc mX12_works 10 (.laload) 1 11 := ⟨zo_47 (by decide +kernel), rfl⟩
theorem dX12_works_11 : Dc mX12_works 11 (.lstore_n 2) 1 12 := ⟨zo_65 (by decide +kernel), rfl⟩
theorem dX12_works_12 : Dc mX12_works 12 (.iload_n 1) 1 13 := ⟨zo_27 (by decide +kernel), rfl⟩
theorem dX12_works_13 : Dc mX12_works 13 (.sipush 260) 3 16 := ⟨zo_17 (w := 1) (x := 4) (by decide +kernel), rfl⟩
theorem dX12_works_16 : Dc mX12_works 16 (.if_icmp .ne 30) 3 19 := ⟨zo_160 (w := 0) (x := 30) (by decide +kernel), rfl⟩
theorem dX12_works_19 : Dc mX12_works 19 (.aload_n 0) 1 20 := ⟨zo_42 (by decide +kernel), rfl⟩
theorem dX12_works_20 : Dc mX12_works 20 (.getfield 81) 3 23 := ⟨zo_180 (w := 0) (x := 81) (by decide +kernel), rfl⟩
theorem dX12_works_23 : Dc mX12_works 23 (.aload_n 0) 1 24 := ⟨zo_42 (by decide +kernel), rfl⟩
theorem dX12_works_24 : Dc mX12_works 24 (.getfield 338) 3 27 := ⟨zo_180 (w := 1) (x := 82) (by decide +kernel), rfl⟩
theorem dX12_works_27 : Dc mX12_works 27 (.iconst 1) 1 28 := ⟨zo_4 (by decide +kernel), rfl⟩
theorem dX12_works_28 : Dc mX12_works 28 (.isub) 1 29 := ⟨zo_100 (by decide +kernel), rfl⟩
theorem dX12_works_29 : Dc mX12_works 29 (.lload_n 2) 1 30 := ⟨zo_32 (by decide +kernel), rfl⟩
theorem dX12_works_30 : Dc mX12_works 30 (.lconst 0) 1 31 := ⟨zo_9 (by decide +kernel), rfl⟩
theorem dX12_works_31 : Dc mX12_works 31 (.lcmp) 1 32 := ⟨zo_148 (by decide +kernel), rfl⟩
theorem dX12_works_32 : Dc mX12_works 32 (.ifCond .ne 7) 3 35 := ⟨zo_154 (w := 0) (x := 7) (by decide +kernel), rfl⟩
theorem dX12_works_35 : Dc mX12_works 35 (.iconst 1) 1 36 := ⟨zo_4 (by decide +kernel), rfl⟩
theorem dX12_works_36 : Dc mX12_works 36 (.goto 4) 3 39 := ⟨zo_167 (w := 0) (x := 4) (by decide +kernel), rfl⟩
theorem dX12_works_39 : Dc mX12_works 39 (.iconst 0) 1 40 := ⟨zo_3 (by decide +kernel), rfl⟩
theorem dX12_works_40 : Dc mX12_works 40 (.invokestatic 341) 3 43 := ⟨zo_184 (w := 1) (x := 85) (by decide +kernel), rfl⟩
theorem dX12_works_43 : Dc mX12_works 43 (.lastore) 1 44 := ⟨zo_80 (by decide +kernel), rfl⟩
theorem dX12_works_44 : Dc mX12_works 44 (.iconst 1) 1 45 := ⟨zo_4 (by decide +kernel), rfl⟩
theorem dX12_works_45 : Dc mX12_works 45 (.ireturn) 1 46 := ⟨zo_172 (by decide +kernel), rfl⟩
theorem dX12_works_46 : Dc mX12_works 46 (.aload_n 0) 1 47 := ⟨zo_42 (by decide +kernel), rfl⟩
theorem dX12_works_47 : Dc mX12_works 47 (.getfield 81) 3 50 := ⟨zo_180 (w := 0) (x := 81) (by decide +kernel), rfl⟩
theorem dX12_works_50 : Dc mX12_works 50 (.aload_n 0) 1 51 := ⟨zo_42 (by decide +kernel), rfl⟩
theorem dX12_works_51 : Dc mX12_works 51 (.getfield 338) 3 54 := ⟨zo_180 (w := 1) (x := 82) (by decide +kernel), rfl⟩
theorem dX12_works_54 : Dc mX12_works 54 (.iconst 2) 1 55 := ⟨zo_5 (by decide +kernel), rfl⟩
theorem dX12_works_55 : Dc mX12_works 55 (.isub) 1 56 := ⟨zo_100 (by decide +kernel), rfl⟩
theorem dX12_works_56 : Dc mX12_works 56 (.laload) 1 57 := ⟨zo_47 (by decide +kernel), rfl⟩
theorem dX12_works_57 : Dc mX12_works 57 (.lstore 4) 2 59 := ⟨zo_55 (by decide +kernel), rfl⟩
theorem dX12_works_59 : Dc mX12_works 59 (.aload_n 0) 1 60 := ⟨zo_42 (by decide +kernel), rfl⟩
theorem dX12_works_60 : Dc mX12_works 60 (.dup) 1 61 := ⟨zo_89 (by decide +kernel), rfl⟩
theorem dX12_works_61 : Dc mX12_works 61 (.getfield 338) 3 64 := ⟨zo_180 (w := 1) (x := 82) (by decide +kernel), rfl⟩
theorem dX12_works_64 : Dc mX12_works 64 (.iconst 1) 1 65 := ⟨zo_4 (by decide +kernel), rfl⟩
theorem dX12_works_65 : Dc mX12_works 65 (.isub) 1 66 := ⟨zo_100 (by decide +kernel), rfl⟩
theorem dX12_works_66 : Dc mX12_works 66 (.putfield 338) 3 69 := ⟨zo_181 (w := 1) (x := 82) (by decide +kernel), rfl⟩
theorem dX12_works_69 : Dc mX12_works 69 (.iload_n 1) 1 70 := ⟨zo_27 (by decide +kernel), rfl⟩
theorem dX12_works_70 : Dc mX12_works 70 (.lookupswitch 314 #[(42, 116), (43, 98), (45, 107), (47, 151), (60, 168), (61, 208), (62, 188), (256, 228), (257, 268), (258, 248), (261, 288)]) 98 168 := ⟨by decide +kernel, rfl⟩
theorem dX12_works_168 : Dc mX12_works 168 (.lload 4) 2 170 := ⟨zo_22 (by decide +kernel), rfl⟩
theorem dX12_works_170 : Dc mX12_works 170 (.lload_n 2) 1 171 := ⟨zo_32 (by decide +kernel), rfl⟩
theorem dX12_works_171 : Dc mX12_works 171 (.ladd) 1 172 := ⟨zo_97 (by decide +kernel), rfl⟩
theorem dX12_works_172 : Dc mX12_works 172 (.lstore 6) 2 174 := ⟨zo_55 (by decide +kernel), rfl⟩
theorem dX12_works_174 : Dc mX12_works 174 (.goto 233) 3 177 := ⟨zo_167 (w := 0) (x := 233) (by decide +kernel), rfl⟩
theorem dX12_works_177 : Dc mX12_works 177 (.lload 4) 2 179 := ⟨zo_22 (by decide +kernel), rfl⟩
theorem dX12_works_179 : Dc mX12_works 179 (.lload_n 2) 1 180 := ⟨zo_32 (by decide +kernel), rfl⟩
theorem dX12_works_180 : Dc mX12_works 180 (.lsub) 1 181 := ⟨zo_101 (by decide +kernel), rfl⟩
theorem dX12_works_181 : Dc mX12_works 181 (.lstore 6) 2 183 := ⟨zo_55 (by decide +kernel), rfl⟩
theorem dX12_works_183 : Dc mX12_works 183 (.goto 224) 3 186 := ⟨zo_167 (w := 0) (x := 224) (by decide +kernel), rfl⟩
theorem dX12_works_186 : Dc mX12_works 186 (.lload 4) 2 188 := ⟨zo_22 (by decide +kernel), rfl⟩
theorem dX12_works_188 : Dc mX12_works 188 (.lconst 0) 1 189 := ⟨zo_9 (by decide +kernel), rfl⟩
theorem dX12_works_189 : Dc mX12_works 189 (.lcmp) 1 190 := ⟨zo_148 (by decide +kernel), rfl⟩
theorem dX12_works_190 : Dc mX12_works 190 (.ifCond .eq 22) 3 193 := ⟨zo_153 (w := 0) (x := 22) (by decide +kernel), rfl⟩
theorem dX12_works_193 : Dc mX12_works 193 (.lload_n 2) 1 194 := ⟨zo_32 (by decide +kernel), rfl⟩
theorem dX12_works_194 : Dc mX12_works 194 (.invokestatic 345) 3 197 := ⟨zo_184 (w := 1) (x := 89) (by decide +kernel), rfl⟩
theorem dX12_works_197 : Dc mX12_works 197 (.ldc2_w 351) 3 200 := ⟨zo_20 (w := 1) (x := 95) (by decide +kernel), rfl⟩
theorem dX12_works_200 : Dc mX12_works 200 (.lload 4) 2 202 := ⟨zo_22 (by decide +kernel), rfl⟩
theorem dX12_works_202 : Dc mX12_works 202 (.invokestatic 345) 3 205 := ⟨zo_184 (w := 1) (x := 89) (by decide +kernel), rfl⟩
theorem dX12_works_205 : Dc mX12_works 205 (.ldiv) 1 206 := ⟨zo_109 (by decide +kernel), rfl⟩
theorem dX12_works_206 : Dc mX12_works 206 (.lcmp) 1 207 := ⟨zo_148 (by decide +kernel), rfl⟩
theorem dX12_works_207 : Dc mX12_works 207 (.ifCond .le 5) 3 210 := ⟨zo_158 (w := 0) (x := 5) (by decide +kernel), rfl⟩
theorem dX12_works_210 : Dc mX12_works 210 (.iconst 0) 1 211 := ⟨zo_3 (by decide +kernel), rfl⟩
theorem dX12_works_211 : Dc mX12_works 211 (.ireturn) 1 212 := ⟨zo_172 (by decide +kernel), rfl⟩
theorem dX12_works_212 : Dc mX12_works 212 (.lload 4) 2 214 := ⟨zo_22 (by decide +kernel), rfl⟩
theorem dX12_works_214 : Dc mX12_works 214 (.lload_n 2) 1 215 := ⟨zo_32 (by decide +kernel), rfl⟩
theorem dX12_works_215 : Dc mX12_works 215 (.lmul) 1 216 := ⟨zo_105 (by decide +kernel), rfl⟩
theorem dX12_works_216 : Dc mX12_works 216 (.lstore 6) 2 218 := ⟨zo_55 (by decide +kernel), rfl⟩
theorem dX12_works_218 : Dc mX12_works 218 (.goto 189) 3 221 := ⟨zo_167 (w := 0) (x := 189) (by decide +kernel), rfl⟩
theorem dX12_works_221 : Dc mX12_works 221 (.lload_n 2) 1 222 := ⟨zo_32 (by decide +kernel), rfl⟩
theorem dX12_works_222 : Dc mX12_works 222 (.lconst 0) 1 223 := ⟨zo_9 (by decide +kernel), rfl⟩
theorem dX12_works_223 : Dc mX12_works 223 (.lcmp) 1 224 := ⟨zo_148 (by decide +kernel), rfl⟩
theorem dX12_works_224 : Dc mX12_works 224 (.ifCond .ne 5) 3 227 := ⟨zo_154 (w := 0) (x := 5) (by decide +kernel), rfl⟩
theorem dX12_works_227 : Dc mX12_works 227 (.iconst 0) 1 228 := ⟨zo_3 (by decide +kernel), rfl⟩
theorem dX12_works_228 : Dc mX12_works 228 (.ireturn) 1 229 := ⟨zo_172 (by decide +kernel), rfl⟩
theorem dX12_works_229 : Dc mX12_works 229 (.lload 4) 2 231 := ⟨zo_22 (by decide +kernel), rfl⟩
theorem dX12_works_231 : Dc mX12_works 231 (.lload_n 2) 1 232 := ⟨zo_32 (by decide +kernel), rfl⟩
theorem dX12_works_232 : Dc mX12_works 232 (.ldiv) 1 233 := ⟨zo_109 (by decide +kernel), rfl⟩
theorem dX12_works_233 : Dc mX12_works 233 (.lstore 6) 2 235 := ⟨zo_55 (by decide +kernel), rfl⟩
theorem dX12_works_235 : Dc mX12_works 235 (.goto 172) 3 238 := ⟨zo_167 (w := 0) (x := 172) (by decide +kernel), rfl⟩
theorem dX12_works_238 : Dc mX12_works 238 (.lload 4) 2 240 := ⟨zo_22 (by decide +kernel), rfl⟩
theorem dX12_works_240 : Dc mX12_works 240 (.lload_n 2) 1 241 := ⟨zo_32 (by decide +kernel), rfl⟩
theorem dX12_works_241 : Dc mX12_works 241 (.lcmp) 1 242 := ⟨zo_148 (by decide +kernel), rfl⟩
theorem dX12_works_242 : Dc mX12_works 242 (.ifCond .ge 7) 3 245 := ⟨zo_156 (w := 0) (x := 7) (by decide +kernel), rfl⟩
theorem dX12_works_245 : Dc mX12_works 245 (.iconst 1) 1 246 := ⟨zo_4 (by decide +kernel), rfl⟩
theorem dX12_works_246 : Dc mX12_works 246 (.goto 4) 3 249 := ⟨zo_167 (w := 0) (x := 4) (by decide +kernel), rfl⟩
theorem dX12_works_249 : Dc mX12_works 249 (.iconst 0) 1 250 := ⟨zo_3 (by decide +kernel), rfl⟩
theorem dX12_works_250 : Dc mX12_works 250 (.invokestatic 341) 3 253 := ⟨zo_184 (w := 1) (x := 85) (by decide +kernel), rfl⟩
theorem dX12_works_253 : Dc mX12_works 253 (.lstore 6) 2 255 := ⟨zo_55 (by decide +kernel), rfl⟩
theorem dX12_works_255 : Dc mX12_works 255 (.goto 152) 3 258 := ⟨zo_167 (w := 0) (x := 152) (by decide +kernel), rfl⟩
theorem dX12_works_258 : Dc mX12_works 258 (.lload 4) 2 260 := ⟨zo_22 (by decide +kernel), rfl⟩
theorem dX12_works_260 : Dc mX12_works 260 (.lload_n 2) 1 261 := ⟨zo_32 (by decide +kernel), rfl⟩
theorem dX12_works_261 : Dc mX12_works 261 (.lcmp) 1 262 := ⟨zo_148 (by decide +kernel), rfl⟩
theorem dX12_works_262 : Dc mX12_works 262 (.ifCond .le 7) 3 265 := ⟨zo_158 (w := 0) (x := 7) (by decide +kernel), rfl⟩
theorem dX12_works_265 : Dc mX12_works 265 (.iconst 1) 1 266 := ⟨zo_4 (by decide +kernel), rfl⟩
theorem dX12_works_266 : Dc mX12_works 266 (.goto 4) 3 269 := ⟨zo_167 (w := 0) (x := 4) (by decide +kernel), rfl⟩
theorem dX12_works_269 : Dc mX12_works 269 (.iconst 0) 1 270 := ⟨zo_3 (by decide +kernel), rfl⟩
theorem dX12_works_270 : Dc mX12_works 270 (.invokestatic 341) 3 273 := ⟨zo_184 (w := 1) (x := 85) (by decide +kernel), rfl⟩
theorem dX12_works_273 : Dc mX12_works 273 (.lstore 6) 2 275 := ⟨zo_55 (by decide +kernel), rfl⟩
theorem dX12_works_275 : Dc mX12_works 275 (.goto 132) 3 278 := ⟨zo_167 (w := 0) (x := 132) (by decide +kernel), rfl⟩
theorem dX12_works_278 : Dc mX12_works 278 (.lload 4) 2 280 := ⟨zo_22 (by decide +kernel), rfl⟩
theorem dX12_works_280 : Dc mX12_works 280 (.lload_n 2) 1 281 := ⟨zo_32 (by decide +kernel), rfl⟩
theorem dX12_works_281 : Dc mX12_works 281 (.lcmp) 1 282 := ⟨zo_148 (by decide +kernel), rfl⟩
theorem dX12_works_282 : Dc mX12_works 282 (.ifCond .ne 7) 3 285 := ⟨zo_154 (w := 0) (x := 7) (by decide +kernel), rfl⟩
theorem dX12_works_285 : Dc mX12_works 285 (.iconst 1) 1 286 := ⟨zo_4 (by decide +kernel), rfl⟩
theorem dX12_works_286 : Dc mX12_works 286 (.goto 4) 3 289 := ⟨zo_167 (w := 0) (x := 4) (by decide +kernel), rfl⟩
theorem dX12_works_289 : Dc mX12_works 289 (.iconst 0) 1 290 := ⟨zo_3 (by decide +kernel), rfl⟩
theorem dX12_works_290 : Dc mX12_works 290 (.invokestatic 341) 3 293 := ⟨zo_184 (w := 1) (x := 85) (by decide +kernel), rfl⟩
theorem dX12_works_293 : Dc mX12_works 293 (.lstore 6) 2 295 := ⟨zo_55 (by decide +kernel), rfl⟩
theorem dX12_works_295 : Dc mX12_works 295 (.goto 112) 3 298 := ⟨zo_167 (w := 0) (x := 112) (by decide +kernel), rfl⟩
theorem dX12_works_298 : Dc mX12_works 298 (.lload 4) 2 300 := ⟨zo_22 (by decide +kernel), rfl⟩
theorem dX12_works_300 : Dc mX12_works 300 (.lload_n 2) 1 301 := ⟨zo_32 (by decide +kernel), rfl⟩
theorem dX12_works_301 : Dc mX12_works 301 (.lcmp) 1 302 := ⟨zo_148 (by decide +kernel), rfl⟩
theorem dX12_works_302 : Dc mX12_works 302 (.ifCond .gt 7) 3 305 := ⟨zo_157 (w := 0) (x := 7) (by decide +kernel), rfl⟩
theorem dX12_works_305 : Dc mX12_works 305 (.iconst 1) 1 306 := ⟨zo_4 (by decide +kernel), rfl⟩
theorem dX12_works_306 : Dc mX12_works 306 (.goto 4) 3 309 := ⟨zo_167 (w := 0) (x := 4) (by decide +kernel), rfl⟩
theorem dX12_works_309 : Dc mX12_works 309 (.iconst 0) 1 310 := ⟨zo_3 (by decide +kernel), rfl⟩
theorem dX12_works_310 : Dc mX12_works 310 (.invokestatic 341) 3 313 := ⟨zo_184 (w := 1) (x := 85) (by decide +kernel), rfl⟩
theorem dX12_works_313 : Dc mX12_works 313 (.lstore 6) 2 315 := ⟨zo_55 (by decide +kernel), rfl⟩
theorem dX12_works_315 : Dc mX12_works 315 (.goto 92) 3 318 := ⟨zo_167 (w := 0) (x := 92) (by decide +kernel), rfl⟩
theorem dX12_works_318 : Dc mX12_works 318 (.lload 4) 2 320 := ⟨zo_22 (by decide +kernel), rfl⟩
theorem dX12_works_320 : Dc mX12_works 320 (.lload_n 2) 1 321 := ⟨zo_32 (by decide +kernel), rfl⟩
theorem dX12_works_321 : Dc mX12_works 321 (.lcmp) 1 322 := ⟨zo_148 (by decide +kernel), rfl⟩
theorem dX12_works_322 : Dc mX12_works 322 (.ifCond .lt 7) 3 325 := ⟨zo_155 (w := 0) (x := 7) (by decide +kernel), rfl⟩
theorem dX12_works_325 : Dc mX12_works 325 (.iconst 1) 1 326 := ⟨zo_4 (by decide +kernel), rfl⟩
theorem dX12_works_326 : Dc mX12_works 326 (.goto 4) 3 329 := ⟨zo_167 (w := 0) (x := 4) (by decide +kernel), rfl⟩
theorem dX12_works_329 : Dc mX12_works 329 (.iconst 0) 1 330 := ⟨zo_3 (by decide +kernel), rfl⟩
theorem dX12_works_330 : Dc mX12_works 330 (.invokestatic 341) 3 333 := ⟨zo_184 (w := 1) (x := 85) (by decide +kernel), rfl⟩
theorem dX12_works_333 : Dc mX12_works 333 (.lstore 6) 2 335 := ⟨zo_55 (by decide +kernel), rfl⟩
theorem dX12_works_335 : Dc mX12_works 335 (.goto 72) 3 338 := ⟨zo_167 (w := 0) (x := 72) (by decide +kernel), rfl⟩
theorem dX12_works_338 : Dc mX12_works 338 (.lload 4) 2 340 := ⟨zo_22 (by decide +kernel), rfl⟩
theorem dX12_works_340 : Dc mX12_works 340 (.lload_n 2) 1 341 := ⟨zo_32 (by decide +kernel), rfl⟩
theorem dX12_works_341 : Dc mX12_works 341 (.lcmp) 1 342 := ⟨zo_148 (by decide +kernel), rfl⟩
theorem dX12_works_342 : Dc mX12_works 342 (.ifCond .eq 7) 3 345 := ⟨zo_153 (w := 0) (x := 7) (by decide +kernel), rfl⟩
theorem dX12_works_345 : Dc mX12_works 345 (.iconst 1) 1 346 := ⟨zo_4 (by decide +kernel), rfl⟩
theorem dX12_works_346 : Dc mX12_works 346 (.goto 4) 3 349 := ⟨zo_167 (w := 0) (x := 4) (by decide +kernel), rfl⟩
theorem dX12_works_349 : Dc mX12_works 349 (.iconst 0) 1 350 := ⟨zo_3 (by decide +kernel), rfl⟩
theorem dX12_works_350 : Dc mX12_works 350 (.invokestatic 341) 3 353 := ⟨zo_184 (w := 1) (x := 85) (by decide +kernel), rfl⟩
theorem dX12_works_353 : Dc mX12_works 353 (.lstore 6) 2 355 := ⟨zo_55 (by decide +kernel), rfl⟩
theorem dX12_works_355 : Dc mX12_works 355 (.goto 52) 3 358 := ⟨zo_167 (w := 0) (x := 52) (by decide +kernel), rfl⟩
theorem dX12_works_358 : Dc mX12_works 358 (.lload 4) 2 360 := ⟨zo_22 (by decide +kernel), rfl⟩
theorem dX12_works_360 : Dc mX12_works 360 (.lconst 0) 1 361 := ⟨zo_9 (by decide +kernel), rfl⟩
theorem dX12_works_361 : Dc mX12_works 361 (.lcmp) 1 362 := ⟨zo_148 (by decide +kernel), rfl⟩
theorem dX12_works_362 : Dc mX12_works 362 (.ifCond .eq 13) 3 365 := ⟨zo_153 (w := 0) (x := 13) (by decide +kernel), rfl⟩
theorem dX12_works_365 : Dc mX12_works 365 (.lload_n 2) 1 366 := ⟨zo_32 (by decide +kernel), rfl⟩
theorem dX12_works_366 : Dc mX12_works 366 (.lconst 0) 1 367 := ⟨zo_9 (by decide +kernel), rfl⟩
theorem dX12_works_367 : Dc mX12_works 367 (.lcmp) 1 368 := ⟨zo_148 (by decide +kernel), rfl⟩
theorem dX12_works_368 : Dc mX12_works 368 (.ifCond .eq 7) 3 371 := ⟨zo_153 (w := 0) (x := 7) (by decide +kernel), rfl⟩
theorem dX12_works_371 : Dc mX12_works 371 (.iconst 1) 1 372 := ⟨zo_4 (by decide +kernel), rfl⟩
theorem dX12_works_372 : Dc mX12_works 372 (.goto 4) 3 375 := ⟨zo_167 (w := 0) (x := 4) (by decide +kernel), rfl⟩
theorem dX12_works_375 : Dc mX12_works 375 (.iconst 0) 1 376 := ⟨zo_3 (by decide +kernel), rfl⟩
theorem dX12_works_376 : Dc mX12_works 376 (.invokestatic 341) 3 379 := ⟨zo_184 (w := 1) (x := 85) (by decide +kernel), rfl⟩
theorem dX12_works_379 : Dc mX12_works 379 (.lstore 6) 2 381 := ⟨zo_55 (by decide +kernel), rfl⟩
theorem dX12_works_381 : Dc mX12_works 381 (.goto 26) 3 384 := ⟨zo_167 (w := 0) (x := 26) (by decide +kernel), rfl⟩
theorem dX12_works_384 : Dc mX12_works 384 (.lload 4) 2 386 := ⟨zo_22 (by decide +kernel), rfl⟩
theorem dX12_works_386 : Dc mX12_works 386 (.lconst 0) 1 387 := ⟨zo_9 (by decide +kernel), rfl⟩
theorem dX12_works_387 : Dc mX12_works 387 (.lcmp) 1 388 := ⟨zo_148 (by decide +kernel), rfl⟩
theorem dX12_works_388 : Dc mX12_works 388 (.ifCond .ne 9) 3 391 := ⟨zo_154 (w := 0) (x := 9) (by decide +kernel), rfl⟩
theorem dX12_works_391 : Dc mX12_works 391 (.lload_n 2) 1 392 := ⟨zo_32 (by decide +kernel), rfl⟩
theorem dX12_works_392 : Dc mX12_works 392 (.lconst 0) 1 393 := ⟨zo_9 (by decide +kernel), rfl⟩
theorem dX12_works_393 : Dc mX12_works 393 (.lcmp) 1 394 := ⟨zo_148 (by decide +kernel), rfl⟩
theorem dX12_works_394 : Dc mX12_works 394 (.ifCond .eq 7) 3 397 := ⟨zo_153 (w := 0) (x := 7) (by decide +kernel), rfl⟩
theorem dX12_works_397 : Dc mX12_works 397 (.iconst 1) 1 398 := ⟨zo_4 (by decide +kernel), rfl⟩
theorem dX12_works_398 : Dc mX12_works 398 (.goto 4) 3 401 := ⟨zo_167 (w := 0) (x := 4) (by decide +kernel), rfl⟩
theorem dX12_works_401 : Dc mX12_works 401 (.iconst 0) 1 402 := ⟨zo_3 (by decide +kernel), rfl⟩
theorem dX12_works_402 : Dc mX12_works 402 (.invokestatic 341) 3 405 := ⟨zo_184 (w := 1) (x := 85) (by decide +kernel), rfl⟩
theorem dX12_works_405 : Dc mX12_works 405 (.lstore 6) 2 407 := ⟨zo_55 (by decide +kernel), rfl⟩
theorem dX12_works_407 : Dc mX12_works 407 (.aload_n 0) 1 408 := ⟨zo_42 (by decide +kernel), rfl⟩
theorem dX12_works_408 : Dc mX12_works 408 (.getfield 81) 3 411 := ⟨zo_180 (w := 0) (x := 81) (by decide +kernel), rfl⟩
theorem dX12_works_411 : Dc mX12_works 411 (.aload_n 0) 1 412 := ⟨zo_42 (by decide +kernel), rfl⟩
theorem dX12_works_412 : Dc mX12_works 412 (.getfield 338) 3 415 := ⟨zo_180 (w := 1) (x := 82) (by decide +kernel), rfl⟩
theorem dX12_works_415 : Dc mX12_works 415 (.iconst 1) 1 416 := ⟨zo_4 (by decide +kernel), rfl⟩
theorem dX12_works_416 : Dc mX12_works 416 (.isub) 1 417 := ⟨zo_100 (by decide +kernel), rfl⟩
theorem dX12_works_417 : Dc mX12_works 417 (.lload 6) 2 419 := ⟨zo_22 (by decide +kernel), rfl⟩
theorem dX12_works_419 : Dc mX12_works 419 (.lastore) 1 420 := ⟨zo_80 (by decide +kernel), rfl⟩
theorem dX12_works_420 : Dc mX12_works 420 (.lload 6) 2 422 := ⟨zo_22 (by decide +kernel), rfl⟩
theorem dX12_works_422 : Dc mX12_works 422 (.ldc2_w 351) 3 425 := ⟨zo_20 (w := 1) (x := 95) (by decide +kernel), rfl⟩
theorem dX12_works_425 : Dc mX12_works 425 (.lcmp) 1 426 := ⟨zo_148 (by decide +kernel), rfl⟩
theorem dX12_works_426 : Dc mX12_works 426 (.ifCond .gt 16) 3 429 := ⟨zo_157 (w := 0) (x := 16) (by decide +kernel), rfl⟩
theorem dX12_works_429 : Dc mX12_works 429 (.lload 6) 2 431 := ⟨zo_22 (by decide +kernel), rfl⟩
theorem dX12_works_431 : Dc mX12_works 431 (.ldc2_w 353) 3 434 := ⟨zo_20 (w := 1) (x := 97) (by decide +kernel), rfl⟩
theorem dX12_works_434 : Dc mX12_works 434 (.lcmp) 1 435 := ⟨zo_148 (by decide +kernel), rfl⟩
theorem dX12_works_435 : Dc mX12_works 435 (.ifCond .lt 7) 3 438 := ⟨zo_155 (w := 0) (x := 7) (by decide +kernel), rfl⟩
theorem dX12_works_438 : Dc mX12_works 438 (.iconst 1) 1 439 := ⟨zo_4 (by decide +kernel), rfl⟩
theorem dX12_works_439 : Dc mX12_works 439 (.goto 4) 3 442 := ⟨zo_167 (w := 0) (x := 4) (by decide +kernel), rfl⟩
theorem dX12_works_442 : Dc mX12_works 442 (.iconst 0) 1 443 := ⟨zo_3 (by decide +kernel), rfl⟩
theorem dX12_works_443 : Dc mX12_works 443 (.ireturn) 1 444 := ⟨zo_172 (by decide +kernel), rfl⟩
theorem dX12_goes_0 : Dc mX12_goes 0 (.aload_n 0) 1 1 := ⟨zo_42 (by decide +kernel), rfl⟩
theorem dX12_goes_1 : Dc mX12_goes 1 (.iconst 0) 1 2 := ⟨zo_3 (by decide +kernel), rfl⟩
theorem dX12_goes_2 : Dc mX12_goes 2 (.putfield 338) 3 5 := ⟨zo_181 (w := 1) (x := 82) (by decide +kernel), rfl⟩
theorem dX12_goes_5 : Dc mX12_goes 5 (.aload_n 0) 1 6 := ⟨zo_42 (by decide +kernel), rfl⟩
theorem dX12_goes_6 : Dc mX12_goes 6 (.getfield 61) 3 9 := ⟨zo_180 (w := 0) (x := 61) (by decide +kernel), rfl⟩
theorem dX12_goes_9 : Dc mX12_goes 9 (.iload_n 1) 1 10 := ⟨zo_27 (by decide +kernel), rfl⟩
theorem dX12_goes_10 : Dc mX12_goes 10 (.iaload) 1 11 := ⟨zo_46 (by decide +kernel), rfl⟩
theorem dX12_goes_11 : Dc mX12_goes 11 (.istore_n 2) 1 12 := ⟨zo_61 (by decide +kernel), rfl⟩
theorem dX12_goes_12 : Dc mX12_goes 12 (.iload_n 2) 1 13 := ⟨zo_28 (by decide +kernel), rfl⟩
theorem dX12_goes_13 : Dc mX12_goes 13 (.aload_n 0) 1 14 := ⟨zo_42 (by decide +kernel), rfl⟩
theorem dX12_goes_14 : Dc mX12_goes 14 (.getfield 64) 3 17 := ⟨zo_180 (w := 0) (x := 64) (by decide +kernel), rfl⟩
theorem dX12_goes_17 : Dc mX12_goes 17 (.iload_n 1) 1 18 := ⟨zo_27 (by decide +kernel), rfl⟩
theorem dX12_goes_18 : Dc mX12_goes 18 (.iaload) 1 19 := ⟨zo_46 (by decide +kernel), rfl⟩
theorem dX12_goes_19 : Dc mX12_goes 19 (.if_icmp .ge 83) 3 22 := ⟨zo_162 (w := 0) (x := 83) (by decide +kernel), rfl⟩
theorem dX12_goes_22 : Dc mX12_goes 22 (.aload_n 0) 1 23 := ⟨zo_42 (by decide +kernel), rfl⟩
theorem dX12_goes_23 : Dc mX12_goes 23 (.getfield 67) 3 26 := ⟨zo_180 (w := 0) (x := 67) (by decide +kernel), rfl⟩
theorem dX12_goes_26 : Dc mX12_goes 26 (.iload_n 2) 1 27 := ⟨zo_28 (by decide +kernel), rfl⟩
theorem dX12_goes_27 : Dc mX12_goes 27 (.iaload) 1 28 := ⟨zo_46 (by decide +kernel), rfl⟩
theorem dX12_goes_28 : Dc mX12_goes 28 (.iconst 2) 1 29 := ⟨zo_5 (by decide +kernel), rfl⟩
theorem dX12_goes_29 : Dc mX12_goes 29 (.if_icmp .ne 18) 3 32 := ⟨zo_160 (w := 0) (x := 18) (by decide +kernel), rfl⟩
theorem dX12_goes_32 : Dc mX12_goes 32 (.aload_n 0) 1 33 := ⟨zo_42 (by decide +kernel), rfl⟩
theorem dX12_goes_33 : Dc mX12_goes 33 (.aload_n 0) 1 34 := ⟨zo_42 (by decide +kernel), rfl⟩
theorem dX12_goes_34 : Dc mX12_goes 34 (.getfield 70) 3 37 := ⟨zo_180 (w := 0) (x := 70) (by decide +kernel), rfl⟩
theorem dX12_goes_37 : Dc mX12_goes 37 (.iload_n 2) 1 38 := ⟨zo_28 (by decide +kernel), rfl⟩
theorem dX12_goes_38 : Dc mX12_goes 38 (.iaload) 1 39 := ⟨zo_46 (by decide +kernel), rfl⟩
theorem dX12_goes_39 : Dc mX12_goes 39 (.invokevirtual 355) 3 42 := ⟨zo_182 (w := 1) (x := 99) (by decide +kernel), rfl⟩
theorem dX12_goes_42 : Dc mX12_goes 42 (.ifCond .ne 54) 3 45 := ⟨zo_154 (w := 0) (x := 54) (by decide +kernel), rfl⟩
theorem dX12_goes_45 : Dc mX12_goes 45 (.iconst 0) 1 46 := ⟨zo_3 (by decide +kernel), rfl⟩
theorem dX12_goes_46 : Dc mX12_goes 46 (.ireturn) 1 47 := ⟨zo_172 (by decide +kernel), rfl⟩
theorem dX12_goes_47 : Dc mX12_goes 47 (.aload_n 0) 1 48 := ⟨zo_42 (by decide +kernel), rfl⟩
theorem dX12_goes_48 : Dc mX12_goes 48 (.getfield 81) 3 51 := ⟨zo_180 (w := 0) (x := 81) (by decide +kernel), rfl⟩
theorem dX12_goes_51 : Dc mX12_goes 51 (.aload_n 0) 1 52 := ⟨zo_42 (by decide +kernel), rfl⟩
theorem dX12_goes_52 : Dc mX12_goes 52 (.getfield 338) 3 55 := ⟨zo_180 (w := 1) (x := 82) (by decide +kernel), rfl⟩
theorem dX12_goes_55 : Dc mX12_goes 55 (.aload_n 0) 1 56 := ⟨zo_42 (by decide +kernel), rfl⟩
theorem dX12_goes_56 : Dc mX12_goes 56 (.getfield 67) 3 59 := ⟨zo_180 (w := 0) (x := 67) (by decide +kernel), rfl⟩
theorem dX12_goes_59 : Dc mX12_goes 59 (.iload_n 2) 1 60 := ⟨zo_28 (by decide +kernel), rfl⟩
theorem dX12_goes_60 : Dc mX12_goes 60 (.iaload) 1 61 := ⟨zo_46 (by decide +kernel), rfl⟩
theorem dX12_goes_61 : Dc mX12_goes 61 (.ifCond .ne 13) 3 64 := ⟨zo_154 (w := 0) (x := 13) (by decide +kernel), rfl⟩
theorem dX12_goes_64 : Dc mX12_goes 64 (.aload_n 0) 1 65 := ⟨zo_42 (by decide +kernel), rfl⟩
theorem dX12_goes_65 : Dc mX12_goes 65 (.getfield 70) 3 68 := ⟨zo_180 (w := 0) (x := 70) (by decide +kernel), rfl⟩
theorem dX12_goes_68 : Dc mX12_goes 68 (.iload_n 2) 1 69 := ⟨zo_28 (by decide +kernel), rfl⟩
theorem dX12_goes_69 : Dc mX12_goes 69 (.iaload) 1 70 := ⟨zo_46 (by decide +kernel), rfl⟩
theorem dX12_goes_70 : Dc mX12_goes 70 (.i2l) 1 71 := ⟨zo_133 (by decide +kernel), rfl⟩
theorem dX12_goes_71 : Dc mX12_goes 71 (.goto 14) 3 74 := ⟨zo_167 (w := 0) (x := 14) (by decide +kernel), rfl⟩
theorem dX12_goes_74 : Dc mX12_goes 74 (.aload_n 0) 1 75 := ⟨zo_42 (by decide +kernel), rfl⟩
theorem dX12_goes_75 : Dc mX12_goes 75 (.getfield 77) 3 78 := ⟨zo_180 (w := 0) (x := 77) (by decide +kernel), rfl⟩
theorem dX12_goes_78 : Dc mX12_goes 78 (.aload_n 0) 1 79 := ⟨zo_42 (by decide +kernel), rfl⟩
theorem dX12_goes_79 : Dc mX12_goes 79 (.getfield 70) 3 82 := ⟨zo_180 (w := 0) (x := 70) (by decide +kernel), rfl⟩
theorem dX12_goes_82 : Dc mX12_goes 82 (.iload_n 2) 1 83 := ⟨zo_28 (by decide +kernel), rfl⟩
theorem dX12_goes_83 : Dc mX12_goes 83 (.iaload) 1 84 := ⟨zo_46 (by decide +kernel), rfl⟩
theorem dX12_goes_84 : Dc mX12_goes 84 (.laload) 1 85 := ⟨zo_47 (by decide +kernel), rfl⟩
theorem dX12_goes_85 : Dc mX12_goes 85 (.lastore) 1 86 := ⟨zo_80 (by decide +kernel), rfl⟩
theorem dX12_goes_86 : Dc mX12_goes 86 (.aload_n 0) 1 87 := ⟨zo_42 (by decide +kernel), rfl⟩
theorem dX12_goes_87 : Dc mX12_goes 87 (.dup) 1 88 := ⟨zo_89 (by decide +kernel), rfl⟩
theorem dX12_goes_88 : Dc mX12_goes 88 (.getfield 338) 3 91 := ⟨zo_180 (w := 1) (x := 82) (by decide +kernel), rfl⟩
theorem dX12_goes_91 : Dc mX12_goes 91 (.iconst 1) 1 92 := ⟨zo_4 (by decide +kernel), rfl⟩
theorem dX12_goes_92 : Dc mX12_goes 92 (.iadd) 1 93 := ⟨zo_96 (by decide +kernel), rfl⟩
theorem dX12_goes_93 : Dc mX12_goes 93 (.putfield 338) 3 96 := ⟨zo_181 (w := 1) (x := 82) (by decide +kernel), rfl⟩
theorem dX12_goes_96 : Dc mX12_goes 96 (.iinc 2 1) 3 99 := ⟨zo_iinc (x := 1) (by decide +kernel), rfl⟩
theorem dX12_goes_99 : Dc mX12_goes 99 (.goto (-87)) 3 102 := ⟨zo_167 (w := 255) (x := 169) (by decide +kernel), rfl⟩
theorem dX12_goes_102 : Dc mX12_goes 102 (.iconst 1) 1 103 := ⟨zo_4 (by decide +kernel), rfl⟩
theorem dX12_goes_103 : Dc mX12_goes 103 (.ireturn) 1 104 := ⟨zo_172 (by decide +kernel), rfl⟩
theorem dX12_hasLaw_0 : Dc mX12_hasLaw 0 (.aload_n 0) 1 1 := ⟨zo_42 (by decide +kernel), rfl⟩
theorem dX12_hasLaw_1 : Dc mX12_hasLaw 1 (.getfield 64) 3 4 := ⟨zo_180 (w := 0) (x := 64) (by decide +kernel), rfl⟩
theorem dX12_hasLaw_4 : Dc mX12_hasLaw 4 (.iload_n 1) 1 5 := ⟨zo_27 (by decide +kernel), rfl⟩
theorem dX12_hasLaw_5 : Dc mX12_hasLaw 5 (.iaload) 1 6 := ⟨zo_46 (by decide +kernel), rfl⟩
theorem dX12_hasLaw_6 : Dc mX12_hasLaw 6 (.aload_n 0) 1 7 := ⟨zo_42 (by decide +kernel), rfl⟩
theorem dX12_hasLaw_7 : Dc mX12_hasLaw 7 (.getfield 61) 3 10 := ⟨zo_180 (w := 0) (x := 61) (by decide +kernel), rfl⟩
theorem dX12_hasLaw_10 : Dc mX12_hasLaw 10 (.iload_n 1) 1 11 := ⟨zo_27 (by decide +kernel), rfl⟩
theorem dX12_hasLaw_11 : Dc mX12_hasLaw 11 (.iaload) 1 12 := ⟨zo_46 (by decide +kernel), rfl⟩
theorem dX12_hasLaw_12 : Dc mX12_hasLaw 12 (.if_icmp .le 7) 3 15 := ⟨zo_164 (w := 0) (x := 7) (by decide +kernel), rfl⟩
theorem dX12_hasLaw_15 : Dc mX12_hasLaw 15 (.iconst 1) 1 16 := ⟨zo_4 (by decide +kernel), rfl⟩
theorem dX12_hasLaw_16 : Dc mX12_hasLaw 16 (.goto 4) 3 19 := ⟨zo_167 (w := 0) (x := 4) (by decide +kernel), rfl⟩
theorem dX12_hasLaw_19 : Dc mX12_hasLaw 19 (.iconst 0) 1 20 := ⟨zo_3 (by decide +kernel), rfl⟩
theorem dX12_hasLaw_20 : Dc mX12_hasLaw 20 (.ireturn) 1 21 := ⟨zo_172 (by decide +kernel), rfl⟩
theorem dX12_starts_0 : Dc mX12_starts 0 (.aload_n 0) 1 1 := ⟨zo_42 (by decide +kernel), rfl⟩
theorem dX12_starts_1 : Dc mX12_starts 1 (.getfield 84) 3 4 := ⟨zo_180 (w := 0) (x := 84) (by decide +kernel), rfl⟩
theorem dX12_starts_4 : Dc mX12_starts 4 (.iload_n 1) 1 5 := ⟨zo_27 (by decide +kernel), rfl⟩
theorem dX12_starts_5 : Dc mX12_starts 5 (.iconst 0) 1 6 := ⟨zo_3 (by decide +kernel), rfl⟩
theorem dX12_starts_6 : Dc mX12_starts 6 (.iastore) 1 7 := ⟨zo_79 (by decide +kernel), rfl⟩
theorem dX12_starts_7 : Dc mX12_starts 7 (.aload_n 0) 1 8 := ⟨zo_42 (by decide +kernel), rfl⟩
theorem dX12_starts_8 : Dc mX12_starts 8 (.getfield 87) 3 11 := ⟨zo_180 (w := 0) (x := 87) (by decide +kernel), rfl⟩
theorem dX12_starts_11 : Dc mX12_starts 11 (.iload_n 1) 1 12 := ⟨zo_27 (by decide +kernel), rfl⟩
theorem dX12_starts_12 : Dc mX12_starts 12 (.aload_n 0) 1 13 := ⟨zo_42 (by decide +kernel), rfl⟩
theorem dX12_starts_13 : Dc mX12_starts 13 (.getfield 13) 3 16 := ⟨zo_180 (w := 0) (x := 13) (by decide +kernel), rfl⟩
theorem dX12_starts_16 : Dc mX12_starts 16 (.bipush 8) 2 18 := ⟨zo_16 (w := 8) (by decide +kernel), rfl⟩
theorem dX12_starts_18 : Dc mX12_starts 18 (.iaload) 1 19 := ⟨zo_46 (by decide +kernel), rfl⟩
theorem dX12_starts_19 : Dc mX12_starts 19 (.iastore) 1 20 := ⟨zo_79 (by decide +kernel), rfl⟩
theorem dX12_starts_20 : Dc mX12_starts 20 (.aload_n 0) 1 21 := ⟨zo_42 (by decide +kernel), rfl⟩
theorem dX12_starts_21 : Dc mX12_starts 21 (.getfield 90) 3 24 := ⟨zo_180 (w := 0) (x := 90) (by decide +kernel), rfl⟩
theorem dX12_starts_24 : Dc mX12_starts 24 (.iload_n 1) 1 25 := ⟨zo_27 (by decide +kernel), rfl⟩
theorem dX12_starts_25 : Dc mX12_starts 25 (.aload_n 0) 1 26 := ⟨zo_42 (by decide +kernel), rfl⟩
theorem dX12_starts_26 : Dc mX12_starts 26 (.getfield 13) 3 29 := ⟨zo_180 (w := 0) (x := 13) (by decide +kernel), rfl⟩
theorem dX12_starts_29 : Dc mX12_starts 29 (.bipush 7) 2 31 := ⟨zo_16 (w := 7) (by decide +kernel), rfl⟩
theorem dX12_starts_31 : Dc mX12_starts 31 (.iaload) 1 32 := ⟨zo_46 (by decide +kernel), rfl⟩
theorem dX12_starts_32 : Dc mX12_starts 32 (.iastore) 1 33 := ⟨zo_79 (by decide +kernel), rfl⟩
theorem dX12_starts_33 : Dc mX12_starts 33 (.aload_n 0) 1 34 := ⟨zo_42 (by decide +kernel), rfl⟩
theorem dX12_starts_34 : Dc mX12_starts 34 (.getfield 93) 3 37 := ⟨zo_180 (w := 0) (x := 93) (by decide +kernel), rfl⟩
theorem dX12_starts_37 : Dc mX12_starts 37 (.iload_n 1) 1 38 := ⟨zo_27 (by decide +kernel), rfl⟩
theorem dX12_starts_38 : Dc mX12_starts 38 (.iconst 0) 1 39 := ⟨zo_3 (by decide +kernel), rfl⟩
theorem dX12_starts_39 : Dc mX12_starts 39 (.iastore) 1 40 := ⟨zo_79 (by decide +kernel), rfl⟩
theorem dX12_starts_40 : Dc mX12_starts 40 (.aload_n 0) 1 41 := ⟨zo_42 (by decide +kernel), rfl⟩
theorem dX12_starts_41 : Dc mX12_starts 41 (.getfield 96) 3 44 := ⟨zo_180 (w := 0) (x := 96) (by decide +kernel), rfl⟩
theorem dX12_starts_44 : Dc mX12_starts 44 (.iload_n 1) 1 45 := ⟨zo_27 (by decide +kernel), rfl⟩
theorem dX12_starts_45 : Dc mX12_starts 45 (.iconst 0) 1 46 := ⟨zo_3 (by decide +kernel), rfl⟩
theorem dX12_starts_46 : Dc mX12_starts 46 (.iastore) 1 47 := ⟨zo_79 (by decide +kernel), rfl⟩
theorem dX12_starts_47 : Dc mX12_starts 47 (.aload_n 0) 1 48 := ⟨zo_42 (by decide +kernel), rfl⟩
theorem dX12_starts_48 : Dc mX12_starts 48 (.getfield 99) 3 51 := ⟨zo_180 (w := 0) (x := 99) (by decide +kernel), rfl⟩
theorem dX12_starts_51 : Dc mX12_starts 51 (.iload_n 1) 1 52 := ⟨zo_27 (by decide +kernel), rfl⟩
theorem dX12_starts_52 : Dc mX12_starts 52 (.iconst 0) 1 53 := ⟨zo_3 (by decide +kernel), rfl⟩
theorem dX12_starts_53 : Dc mX12_starts 53 (.iastore) 1 54 := ⟨zo_79 (by decide +kernel), rfl⟩
theorem dX12_starts_54 : Dc mX12_starts 54 (.iconst 0) 1 55 := ⟨zo_3 (by decide +kernel), rfl⟩
theorem dX12_starts_55 : Dc mX12_starts 55 (.istore_n 2) 1 56 := ⟨zo_61 (by decide +kernel), rfl⟩
theorem dX12_starts_56 : Dc mX12_starts 56 (.iload_n 2) 1 57 := ⟨zo_28 (by decide +kernel), rfl⟩
theorem dX12_starts_57 : Dc mX12_starts 57 (.bipush 6) 2 59 := ⟨zo_16 (w := 6) (by decide +kernel), rfl⟩
theorem dX12_starts_59 : Dc mX12_starts 59 (.if_icmp .ge 33) 3 62 := ⟨zo_162 (w := 0) (x := 33) (by decide +kernel), rfl⟩
theorem dX12_starts_62 : Dc mX12_starts 62 (.aload_n 0) 1 63 := ⟨zo_42 (by decide +kernel), rfl⟩
theorem dX12_starts_63 : Dc mX12_starts 63 (.getfield 102) 3 66 := ⟨zo_180 (w := 0) (x := 102) (by decide +kernel), rfl⟩
theorem dX12_starts_66 : Dc mX12_starts 66 (.bipush 6) 2 68 := ⟨zo_16 (w := 6) (by decide +kernel), rfl⟩
theorem dX12_starts_68 : Dc mX12_starts 68 (.iload_n 1) 1 69 := ⟨zo_27 (by decide +kernel), rfl⟩
theorem dX12_starts_69 : Dc mX12_starts 69 (.imul) 1 70 := ⟨zo_104 (by decide +kernel), rfl⟩
theorem dX12_starts_70 : Dc mX12_starts 70 (.iload_n 2) 1 71 := ⟨zo_28 (by decide +kernel), rfl⟩
theorem dX12_starts_71 : Dc mX12_starts 71 (.iadd) 1 72 := ⟨zo_96 (by decide +kernel), rfl⟩
theorem dX12_starts_72 : Dc mX12_starts 72 (.iconst (-1)) 1 73 := ⟨zo_2 (by decide +kernel), rfl⟩
theorem dX12_starts_73 : Dc mX12_starts 73 (.iastore) 1 74 := ⟨zo_79 (by decide +kernel), rfl⟩
theorem dX12_starts_74 : Dc mX12_starts 74 (.aload_n 0) 1 75 := ⟨zo_42 (by decide +kernel), rfl⟩
theorem dX12_starts_75 : Dc mX12_starts 75 (.getfield 105) 3 78 := ⟨zo_180 (w := 0) (x := 105) (by decide +kernel), rfl⟩
theorem dX12_starts_78 : Dc mX12_starts 78 (.bipush 6) 2 80 := ⟨zo_16 (w := 6) (by decide +kernel), rfl⟩
theorem dX12_starts_80 : Dc mX12_starts 80 (.iload_n 1) 1 81 := ⟨zo_27 (by decide +kernel), rfl⟩
theorem dX12_starts_81 : Dc mX12_starts 81 (.imul) 1 82 := ⟨zo_104 (by decide +kernel), rfl⟩
theorem dX12_starts_82 : Dc mX12_starts 82 (.iload_n 2) 1 83 := ⟨zo_28 (by decide +kernel), rfl⟩
theorem dX12_starts_83 : Dc mX12_starts 83 (.iadd) 1 84 := ⟨zo_96 (by decide +kernel), rfl⟩
theorem dX12_starts_84 : Dc mX12_starts 84 (.iconst 0) 1 85 := ⟨zo_3 (by decide +kernel), rfl⟩
theorem dX12_starts_85 : Dc mX12_starts 85 (.iastore) 1 86 := ⟨zo_79 (by decide +kernel), rfl⟩
theorem dX12_starts_86 : Dc mX12_starts 86 (.iinc 2 1) 3 89 := ⟨zo_iinc (x := 1) (by decide +kernel), rfl⟩
theorem dX12_starts_89 : Dc mX12_starts 89 (.goto (-33)) 3 92 := ⟨zo_167 (w := 255) (x := 223) (by decide +kernel), rfl⟩
theorem dX12_starts_92 : Dc mX12_starts 92 (.iconst 0) 1 93 := ⟨zo_3 (by decide +kernel), rfl⟩
theorem dX12_starts_93 : Dc mX12_starts 93 (.istore_n 2) 1 94 := ⟨zo_61 (by decide +kernel), rfl⟩
theorem dX12_starts_94 : Dc mX12_starts 94 (.iload_n 2) 1 95 := ⟨zo_28 (by decide +kernel), rfl⟩
theorem dX12_starts_95 : Dc mX12_starts 95 (.bipush 8) 2 97 := ⟨zo_16 (w := 8) (by decide +kernel), rfl⟩
theorem dX12_starts_97 : Dc mX12_starts 97 (.if_icmp .ge 64) 3 100 := ⟨zo_162 (w := 0) (x := 64) (by decide +kernel), rfl⟩
theorem dX12_starts_100 : Dc mX12_starts 100 (.aload_n 0) 1 101 := ⟨zo_42 (by decide +kernel), rfl⟩
theorem dX12_starts_101 : Dc mX12_starts 101 (.getfield 108) 3 104 := ⟨zo_180 (w := 0) (x := 108) (by decide +kernel), rfl⟩
theorem dX12_starts_104 : Dc mX12_starts 104 (.bipush 8) 2 106 := ⟨zo_16 (w := 8) (by decide +kernel), rfl⟩
theorem dX12_starts_106 : Dc mX12_starts 106 (.iload_n 1) 1 107 := ⟨zo_27 (by decide +kernel), rfl⟩
theorem dX12_starts_107 : Dc mX12_starts 107 (.imul) 1 108 := ⟨zo_104 (by decide +kernel), rfl⟩
theorem dX12_starts_108 : Dc mX12_starts 108 (.iload_n 2) 1 109 := ⟨zo_28 (by decide +kernel), rfl⟩
theorem dX12_starts_109 : Dc mX12_starts 109 (.iadd) 1 110 := ⟨zo_96 (by decide +kernel), rfl⟩
theorem dX12_starts_110 : Dc mX12_starts 110 (.iload_n 2) 1 111 := ⟨zo_28 (by decide +kernel), rfl⟩
theorem dX12_starts_111 : Dc mX12_starts 111 (.aload_n 0) 1 112 := ⟨zo_42 (by decide +kernel), rfl⟩
theorem dX12_starts_112 : Dc mX12_starts 112 (.getfield 13) 3 115 := ⟨zo_180 (w := 0) (x := 13) (by decide +kernel), rfl⟩
theorem dX12_starts_115 : Dc mX12_starts 115 (.iconst 1) 1 116 := ⟨zo_4 (by decide +kernel), rfl⟩
theorem dX12_starts_116 : Dc mX12_starts 116 (.iaload) 1 117 := ⟨zo_46 (by decide +kernel), rfl⟩
theorem dX12_starts_117 : Dc mX12_starts 117 (.if_icmp .ge 12) 3 120 := ⟨zo_162 (w := 0) (x := 12) (by decide +kernel), rfl⟩
theorem dX12_starts_120 : Dc mX12_starts 120 (.aload_n 0) 1 121 := ⟨zo_42 (by decide +kernel), rfl⟩
theorem dX12_starts_121 : Dc mX12_starts 121 (.getfield 31) 3 124 := ⟨zo_180 (w := 0) (x := 31) (by decide +kernel), rfl⟩
theorem dX12_starts_124 : Dc mX12_starts 124 (.iload_n 2) 1 125 := ⟨zo_28 (by decide +kernel), rfl⟩
theorem dX12_starts_125 : Dc mX12_starts 125 (.iaload) 1 126 := ⟨zo_46 (by decide +kernel), rfl⟩
theorem dX12_starts_126 : Dc mX12_starts 126 (.goto 4) 3 129 := ⟨zo_167 (w := 0) (x := 4) (by decide +kernel), rfl⟩
theorem dX12_starts_129 : Dc mX12_starts 129 (.iconst 0) 1 130 := ⟨zo_3 (by decide +kernel), rfl⟩
theorem dX12_starts_130 : Dc mX12_starts 130 (.iastore) 1 131 := ⟨zo_79 (by decide +kernel), rfl⟩
theorem dX12_starts_131 : Dc mX12_starts 131 (.aload_n 0) 1 132 := ⟨zo_42 (by decide +kernel), rfl⟩
theorem dX12_starts_132 : Dc mX12_starts 132 (.getfield 111) 3 135 := ⟨zo_180 (w := 0) (x := 111) (by decide +kernel), rfl⟩
theorem dX12_starts_135 : Dc mX12_starts 135 (.bipush 8) 2 137 := ⟨zo_16 (w := 8) (by decide +kernel), rfl⟩
theorem dX12_starts_137 : Dc mX12_starts 137 (.iload_n 1) 1 138 := ⟨zo_27 (by decide +kernel), rfl⟩
theorem dX12_starts_138 : Dc mX12_starts 138 (.imul) 1 139 := ⟨zo_104 (by decide +kernel), rfl⟩
theorem dX12_starts_139 : Dc mX12_starts 139 (.iload_n 2) 1 140 := ⟨zo_28 (by decide +kernel), rfl⟩
theorem dX12_starts_140 : Dc mX12_starts 140 (.iadd) 1 141 := ⟨zo_96 (by decide +kernel), rfl⟩
theorem dX12_starts_141 : Dc mX12_starts 141 (.iconst 0) 1 142 := ⟨zo_3 (by decide +kernel), rfl⟩
theorem dX12_starts_142 : Dc mX12_starts 142 (.iastore) 1 143 := ⟨zo_79 (by decide +kernel), rfl⟩
theorem dX12_starts_143 : Dc mX12_starts 143 (.aload_n 0) 1 144 := ⟨zo_42 (by decide +kernel), rfl⟩
theorem dX12_starts_144 : Dc mX12_starts 144 (.getfield 114) 3 147 := ⟨zo_180 (w := 0) (x := 114) (by decide +kernel), rfl⟩
theorem dX12_starts_147 : Dc mX12_starts 147 (.bipush 8) 2 149 := ⟨zo_16 (w := 8) (by decide +kernel), rfl⟩
theorem dX12_starts_149 : Dc mX12_starts 149 (.iload_n 1) 1 150 := ⟨zo_27 (by decide +kernel), rfl⟩
theorem dX12_starts_150 : Dc mX12_starts 150 (.imul) 1 151 := ⟨zo_104 (by decide +kernel), rfl⟩
theorem dX12_starts_151 : Dc mX12_starts 151 (.iload_n 2) 1 152 := ⟨zo_28 (by decide +kernel), rfl⟩
theorem dX12_starts_152 : Dc mX12_starts 152 (.iadd) 1 153 := ⟨zo_96 (by decide +kernel), rfl⟩
theorem dX12_starts_153 : Dc mX12_starts 153 (.iconst 0) 1 154 := ⟨zo_3 (by decide +kernel), rfl⟩
theorem dX12_starts_154 : Dc mX12_starts 154 (.iastore) 1 155 := ⟨zo_79 (by decide +kernel), rfl⟩
theorem dX12_starts_155 : Dc mX12_starts 155 (.iinc 2 1) 3 158 := ⟨zo_iinc (x := 1) (by decide +kernel), rfl⟩
theorem dX12_starts_158 : Dc mX12_starts 158 (.goto (-64)) 3 161 := ⟨zo_167 (w := 255) (x := 192) (by decide +kernel), rfl⟩
theorem dX12_starts_161 : Dc mX12_starts 161 (.iconst 0) 1 162 := ⟨zo_3 (by decide +kernel), rfl⟩
theorem dX12_starts_162 : Dc mX12_starts 162 (.istore_n 2) 1 163 := ⟨zo_61 (by decide +kernel), rfl⟩
theorem dX12_starts_163 : Dc mX12_starts 163 (.iload_n 2) 1 164 := ⟨zo_28 (by decide +kernel), rfl⟩
theorem dX12_starts_164 : Dc mX12_starts 164 (.bipush 48) 2 166 := ⟨zo_16 (w := 48) (by decide +kernel), rfl⟩
theorem dX12_starts_166 : Dc mX12_starts 166 (.if_icmp .ge 26) 3 169 := ⟨zo_162 (w := 0) (x := 26) (by decide +kernel), rfl⟩
theorem dX12_starts_169 : Dc mX12_starts 169 (.aload_n 0) 1 170 := ⟨zo_42 (by decide +kernel), rfl⟩
theorem dX12_starts_170 : Dc mX12_starts 170 (.getfield 117) 3 173 := ⟨zo_180 (w := 0) (x := 117) (by decide +kernel), rfl⟩
theorem dX12_starts_173 : Dc mX12_starts 173 (.bipush 48) 2 175 := ⟨zo_16 (w := 48) (by decide +kernel), rfl⟩
theorem dX12_starts_175 : Dc mX12_starts 175 (.iload_n 1) 1 176 := ⟨zo_27 (by decide +kernel), rfl⟩
theorem dX12_starts_176 : Dc mX12_starts 176 (.imul) 1 177 := ⟨zo_104 (by decide +kernel), rfl⟩
theorem dX12_starts_177 : Dc mX12_starts 177 (.iload_n 2) 1 178 := ⟨zo_28 (by decide +kernel), rfl⟩
theorem dX12_starts_178 : Dc mX12_starts 178 (.iadd) 1 179 := ⟨zo_96 (by decide +kernel), rfl⟩
theorem dX12_starts_179 : Dc mX12_starts 179 (.aload_n 0) 1 180 := ⟨zo_42 (by decide +kernel), rfl⟩
theorem dX12_starts_180 : Dc mX12_starts 180 (.getfield 34) 3 183 := ⟨zo_180 (w := 0) (x := 34) (by decide +kernel), rfl⟩
theorem dX12_starts_183 : Dc mX12_starts 183 (.iload_n 2) 1 184 := ⟨zo_28 (by decide +kernel), rfl⟩
theorem dX12_starts_184 : Dc mX12_starts 184 (.iaload) 1 185 := ⟨zo_46 (by decide +kernel), rfl⟩
theorem dX12_starts_185 : Dc mX12_starts 185 (.iastore) 1 186 := ⟨zo_79 (by decide +kernel), rfl⟩
theorem dX12_starts_186 : Dc mX12_starts 186 (.iinc 2 1) 3 189 := ⟨zo_iinc (x := 1) (by decide +kernel), rfl⟩
theorem dX12_starts_189 : Dc mX12_starts 189 (.goto (-26)) 3 192 := ⟨zo_167 (w := 255) (x := 230) (by decide +kernel), rfl⟩
theorem dX12_starts_192 : Dc mX12_starts 192 (.iconst 0) 1 193 := ⟨zo_3 (by decide +kernel), rfl⟩
theorem dX12_starts_193 : Dc mX12_starts 193 (.istore_n 2) 1 194 := ⟨zo_61 (by decide +kernel), rfl⟩
theorem dX12_starts_194 : Dc mX12_starts 194 (.iload_n 2) 1 195 := ⟨zo_28 (by decide +kernel), rfl⟩
theorem dX12_starts_195 : Dc mX12_starts 195 (.iconst 4) 1 196 := ⟨zo_7 (by decide +kernel), rfl⟩
theorem dX12_starts_196 : Dc mX12_starts 196 (.if_icmp .ge 50) 3 199 := ⟨zo_162 (w := 0) (x := 50) (by decide +kernel), rfl⟩
theorem dX12_starts_199 : Dc mX12_starts 199 (.aload_n 0) 1 200 := ⟨zo_42 (by decide +kernel), rfl⟩
theorem dX12_starts_200 : Dc mX12_starts 200 (.getfield 120) 3 203 := ⟨zo_180 (w := 0) (x := 120) (by decide +kernel), rfl⟩
theorem dX12_starts_203 : Dc mX12_starts 203 (.iconst 4) 1 204 := ⟨zo_7 (by decide +kernel), rfl⟩
theorem dX12_starts_204 : Dc mX12_starts 204 (.iload_n 1) 1 205 := ⟨zo_27 (by decide +kernel), rfl⟩
theorem dX12_starts_205 : Dc mX12_starts 205 (.imul) 1 206 := ⟨zo_104 (by decide +kernel), rfl⟩
theorem dX12_starts_206 : Dc mX12_starts 206 (.iload_n 2) 1 207 := ⟨zo_28 (by decide +kernel), rfl⟩
theorem dX12_starts_207 : Dc mX12_starts 207 (.iadd) 1 208 := ⟨zo_96 (by decide +kernel), rfl⟩
theorem dX12_starts_208 : Dc mX12_starts 208 (.iload_n 2) 1 209 := ⟨zo_28 (by decide +kernel), rfl⟩
theorem dX12_starts_209 : Dc mX12_starts 209 (.aload_n 0) 1 210 := ⟨zo_42 (by decide +kernel), rfl⟩
theorem dX12_starts_210 : Dc mX12_starts 210 (.getfield 13) 3 213 := ⟨zo_180 (w := 0) (x := 13) (by decide +kernel), rfl⟩
theorem dX12_starts_213 : Dc mX12_starts 213 (.iconst 3) 1 214 := ⟨zo_6 (by decide +kernel), rfl⟩
theorem dX12_starts_214 : Dc mX12_starts 214 (.iaload) 1 215 := ⟨zo_46 (by decide +kernel), rfl⟩
theorem dX12_starts_215 : Dc mX12_starts 215 (.if_icmp .ge 12) 3 218 := ⟨zo_162 (w := 0) (x := 12) (by decide +kernel), rfl⟩
theorem dX12_starts_218 : Dc mX12_starts 218 (.aload_n 0) 1 219 := ⟨zo_42 (by decide +kernel), rfl⟩
theorem dX12_starts_219 : Dc mX12_starts 219 (.getfield 46) 3 222 := ⟨zo_180 (w := 0) (x := 46) (by decide +kernel), rfl⟩
theorem dX12_starts_222 : Dc mX12_starts 222 (.iload_n 2) 1 223 := ⟨zo_28 (by decide +kernel), rfl⟩
theorem dX12_starts_223 : Dc mX12_starts 223 (.iaload) 1 224 := ⟨zo_46 (by decide +kernel), rfl⟩
theorem dX12_starts_224 : Dc mX12_starts 224 (.goto 4) 3 227 := ⟨zo_167 (w := 0) (x := 4) (by decide +kernel), rfl⟩
theorem dX12_starts_227 : Dc mX12_starts 227 (.iconst 0) 1 228 := ⟨zo_3 (by decide +kernel), rfl⟩
theorem dX12_starts_228 : Dc mX12_starts 228 (.iastore) 1 229 := ⟨zo_79 (by decide +kernel), rfl⟩
theorem dX12_starts_229 : Dc mX12_starts 229 (.aload_n 0) 1 230 := ⟨zo_42 (by decide +kernel), rfl⟩
theorem dX12_starts_230 : Dc mX12_starts 230 (.getfield 123) 3 233 := ⟨zo_180 (w := 0) (x := 123) (by decide +kernel), rfl⟩
theorem dX12_starts_233 : Dc mX12_starts 233 (.iconst 4) 1 234 := ⟨zo_7 (by decide +kernel), rfl⟩
theorem dX12_starts_234 : Dc mX12_starts 234 (.iload_n 1) 1 235 := ⟨zo_27 (by decide +kernel), rfl⟩
theorem dX12_starts_235 : Dc mX12_starts 235 (.imul) 1 236 := ⟨zo_104 (by decide +kernel), rfl⟩
theorem dX12_starts_236 : Dc mX12_starts 236 (.iload_n 2) 1 237 := ⟨zo_28 (by decide +kernel), rfl⟩
theorem dX12_starts_237 : Dc mX12_starts 237 (.iadd) 1 238 := ⟨zo_96 (by decide +kernel), rfl⟩
theorem dX12_starts_238 : Dc mX12_starts 238 (.iconst 0) 1 239 := ⟨zo_3 (by decide +kernel), rfl⟩
theorem dX12_starts_239 : Dc mX12_starts 239 (.iastore) 1 240 := ⟨zo_79 (by decide +kernel), rfl⟩
theorem dX12_starts_240 : Dc mX12_starts 240 (.iinc 2 1) 3 243 := ⟨zo_iinc (x := 1) (by decide +kernel), rfl⟩
theorem dX12_starts_243 : Dc mX12_starts 243 (.goto (-49)) 3 246 := ⟨zo_167 (w := 255) (x := 207) (by decide +kernel), rfl⟩
theorem dX12_starts_246 : Dc mX12_starts 246 (.return_) 1 247 := ⟨zo_177 (by decide +kernel), rfl⟩
theorem dX12_begins_0 : Dc mX12_begins 0 (.aload_n 0) 1 1 := ⟨zo_42 (by decide +kernel), rfl⟩
theorem dX12_begins_1 : Dc mX12_begins 1 (.iconst 0) 1 2 := ⟨zo_3 (by decide +kernel), rfl⟩
theorem dX12_begins_2 : Dc mX12_begins 2 (.invokevirtual 358) 3 5 := ⟨zo_182 (w := 1) (x := 102) (by decide +kernel), rfl⟩
theorem dX12_begins_5 : Dc mX12_begins 5 (.return_) 1 6 := ⟨zo_177 (by decide +kernel), rfl⟩
theorem dX12_copies_0 : Dc mX12_copies 0 (.aload_n 0) 1 1 := ⟨zo_42 (by decide +kernel), rfl⟩
theorem dX12_copies_1 : Dc mX12_copies 1 (.getfield 84) 3 4 := ⟨zo_180 (w := 0) (x := 84) (by decide +kernel), rfl⟩
theorem dX12_copies_4 : Dc mX12_copies 4 (.iload_n 1) 1 5 := ⟨zo_27 (by decide +kernel), rfl⟩
theorem dX12_copies_5 : Dc mX12_copies 5 (.aload_n 0) 1 6 := ⟨zo_42 (by decide +kernel), rfl⟩
theorem dX12_copies_6 : Dc mX12_copies 6 (.getfield 84) 3 9 := ⟨zo_180 (w := 0) (x := 84) (by decide +kernel), rfl⟩
theorem dX12_copies_9 : Dc mX12_copies 9 (.iload_n 2) 1 10 := ⟨zo_28 (by decide +kernel), rfl⟩
theorem dX12_copies_10 : Dc mX12_copies 10 (.iaload) 1 11 := ⟨zo_46 (by decide +kernel), rfl⟩
theorem dX12_copies_11 : Dc mX12_copies 11 (.iastore) 1 12 := ⟨zo_79 (by decide +kernel), rfl⟩
theorem dX12_copies_12 : Dc mX12_copies 12 (.aload_n 0) 1 13 := ⟨zo_42 (by decide +kernel), rfl⟩
theorem dX12_copies_13 : Dc mX12_copies 13 (.getfield 87) 3 16 := ⟨zo_180 (w := 0) (x := 87) (by decide +kernel), rfl⟩
theorem dX12_copies_16 : Dc mX12_copies 16 (.iload_n 1) 1 17 := ⟨zo_27 (by decide +kernel), rfl⟩
theorem dX12_copies_17 : Dc mX12_copies 17 (.aload_n 0) 1 18 := ⟨zo_42 (by decide +kernel), rfl⟩
theorem dX12_copies_18 : Dc mX12_copies 18 (.getfield 87) 3 21 := ⟨zo_180 (w := 0) (x := 87) (by decide +kernel), rfl⟩
theorem dX12_copies_21 : Dc mX12_copies 21 (.iload_n 2) 1 22 := ⟨zo_28 (by decide +kernel), rfl⟩
theorem dX12_copies_22 : Dc mX12_copies 22 (.iaload) 1 23 := ⟨zo_46 (by decide +kernel), rfl⟩
theorem dX12_copies_23 : Dc mX12_copies 23 (.iastore) 1 24 := ⟨zo_79 (by decide +kernel), rfl⟩
theorem dX12_copies_24 : Dc mX12_copies 24 (.aload_n 0) 1 25 := ⟨zo_42 (by decide +kernel), rfl⟩
theorem dX12_copies_25 : Dc mX12_copies 25 (.getfield 90) 3 28 := ⟨zo_180 (w := 0) (x := 90) (by decide +kernel), rfl⟩
theorem dX12_copies_28 : Dc mX12_copies 28 (.iload_n 1) 1 29 := ⟨zo_27 (by decide +kernel), rfl⟩
theorem dX12_copies_29 : Dc mX12_copies 29 (.aload_n 0) 1 30 := ⟨zo_42 (by decide +kernel), rfl⟩
theorem dX12_copies_30 : Dc mX12_copies 30 (.getfield 90) 3 33 := ⟨zo_180 (w := 0) (x := 90) (by decide +kernel), rfl⟩
theorem dX12_copies_33 : Dc mX12_copies 33 (.iload_n 2) 1 34 := ⟨zo_28 (by decide +kernel), rfl⟩
theorem dX12_copies_34 : Dc mX12_copies 34 (.iaload) 1 35 := ⟨zo_46 (by decide +kernel), rfl⟩
theorem dX12_copies_35 : Dc mX12_copies 35 (.iastore) 1 36 := ⟨zo_79 (by decide +kernel), rfl⟩
theorem dX12_copies_36 : Dc mX12_copies 36 (.aload_n 0) 1 37 := ⟨zo_42 (by decide +kernel), rfl⟩
theorem dX12_copies_37 : Dc mX12_copies 37 (.getfield 93) 3 40 := ⟨zo_180 (w := 0) (x := 93) (by decide +kernel), rfl⟩
theorem dX12_copies_40 : Dc mX12_copies 40 (.iload_n 1) 1 41 := ⟨zo_27 (by decide +kernel), rfl⟩
theorem dX12_copies_41 : Dc mX12_copies 41 (.aload_n 0) 1 42 := ⟨zo_42 (by decide +kernel), rfl⟩
theorem dX12_copies_42 : Dc mX12_copies 42 (.getfield 93) 3 45 := ⟨zo_180 (w := 0) (x := 93) (by decide +kernel), rfl⟩
theorem dX12_copies_45 : Dc mX12_copies 45 (.iload_n 2) 1 46 := ⟨zo_28 (by decide +kernel), rfl⟩
theorem dX12_copies_46 : Dc mX12_copies 46 (.iaload) 1 47 := ⟨zo_46 (by decide +kernel), rfl⟩
theorem dX12_copies_47 : Dc mX12_copies 47 (.iastore) 1 48 := ⟨zo_79 (by decide +kernel), rfl⟩
theorem dX12_copies_48 : Dc mX12_copies 48 (.aload_n 0) 1 49 := ⟨zo_42 (by decide +kernel), rfl⟩
theorem dX12_copies_49 : Dc mX12_copies 49 (.getfield 96) 3 52 := ⟨zo_180 (w := 0) (x := 96) (by decide +kernel), rfl⟩
theorem dX12_copies_52 : Dc mX12_copies 52 (.iload_n 1) 1 53 := ⟨zo_27 (by decide +kernel), rfl⟩
theorem dX12_copies_53 : Dc mX12_copies 53 (.aload_n 0) 1 54 := ⟨zo_42 (by decide +kernel), rfl⟩
theorem dX12_copies_54 : Dc mX12_copies 54 (.getfield 96) 3 57 := ⟨zo_180 (w := 0) (x := 96) (by decide +kernel), rfl⟩
theorem dX12_copies_57 : Dc mX12_copies 57 (.iload_n 2) 1 58 := ⟨zo_28 (by decide +kernel), rfl⟩
theorem dX12_copies_58 : Dc mX12_copies 58 (.iaload) 1 59 := ⟨zo_46 (by decide +kernel), rfl⟩
theorem dX12_copies_59 : Dc mX12_copies 59 (.iastore) 1 60 := ⟨zo_79 (by decide +kernel), rfl⟩
theorem dX12_copies_60 : Dc mX12_copies 60 (.aload_n 0) 1 61 := ⟨zo_42 (by decide +kernel), rfl⟩
theorem dX12_copies_61 : Dc mX12_copies 61 (.getfield 99) 3 64 := ⟨zo_180 (w := 0) (x := 99) (by decide +kernel), rfl⟩
theorem dX12_copies_64 : Dc mX12_copies 64 (.iload_n 1) 1 65 := ⟨zo_27 (by decide +kernel), rfl⟩
theorem dX12_copies_65 : Dc mX12_copies 65 (.aload_n 0) 1 66 := ⟨zo_42 (by decide +kernel), rfl⟩
theorem dX12_copies_66 : Dc mX12_copies 66 (.getfield 99) 3 69 := ⟨zo_180 (w := 0) (x := 99) (by decide +kernel), rfl⟩
theorem dX12_copies_69 : Dc mX12_copies 69 (.iload_n 2) 1 70 := ⟨zo_28 (by decide +kernel), rfl⟩
theorem dX12_copies_70 : Dc mX12_copies 70 (.iaload) 1 71 := ⟨zo_46 (by decide +kernel), rfl⟩
theorem dX12_copies_71 : Dc mX12_copies 71 (.iastore) 1 72 := ⟨zo_79 (by decide +kernel), rfl⟩
theorem dX12_copies_72 : Dc mX12_copies 72 (.iconst 0) 1 73 := ⟨zo_3 (by decide +kernel), rfl⟩
theorem dX12_copies_73 : Dc mX12_copies 73 (.istore_n 3) 1 74 := ⟨zo_62 (by decide +kernel), rfl⟩
theorem dX12_copies_74 : Dc mX12_copies 74 (.iload_n 3) 1 75 := ⟨zo_29 (by decide +kernel), rfl⟩
theorem dX12_copies_75 : Dc mX12_copies 75 (.bipush 6) 2 77 := ⟨zo_16 (w := 6) (by decide +kernel), rfl⟩
theorem dX12_copies_77 : Dc mX12_copies 77 (.if_icmp .ge 53) 3 80 := ⟨zo_162 (w := 0) (x := 53) (by decide +kernel), rfl⟩
theorem dX12_copies_80 : Dc mX12_copies 80 (.aload_n 0) 1 81 := ⟨zo_42 (by decide +kernel), rfl⟩
theorem dX12_copies_81 : Dc mX12_copies 81 (.getfield 102) 3 84 := ⟨zo_180 (w := 0) (x := 102) (by decide +kernel), rfl⟩
theorem dX12_copies_84 : Dc mX12_copies 84 (.bipush 6) 2 86 := ⟨zo_16 (w := 6) (by decide +kernel), rfl⟩
theorem dX12_copies_86 : Dc mX12_copies 86 (.iload_n 1) 1 87 := ⟨zo_27 (by decide +kernel), rfl⟩
theorem dX12_copies_87 : Dc mX12_copies 87 (.imul) 1 88 := ⟨zo_104 (by decide +kernel), rfl⟩
theorem dX12_copies_88 : Dc mX12_copies 88 (.iload_n 3) 1 89 := ⟨zo_29 (by decide +kernel), rfl⟩
theorem dX12_copies_89 : Dc mX12_copies 89 (.iadd) 1 90 := ⟨zo_96 (by decide +kernel), rfl⟩
theorem dX12_copies_90 : Dc mX12_copies 90 (.aload_n 0) 1 91 := ⟨zo_42 (by decide +kernel), rfl⟩
theorem dX12_copies_91 : Dc mX12_copies 91 (.getfield 102) 3 94 := ⟨zo_180 (w := 0) (x := 102) (by decide +kernel), rfl⟩
theorem dX12_copies_94 : Dc mX12_copies 94 (.bipush 6) 2 96 := ⟨zo_16 (w := 6) (by decide +kernel), rfl⟩
theorem dX12_copies_96 : Dc mX12_copies 96 (.iload_n 2) 1 97 := ⟨zo_28 (by decide +kernel), rfl⟩
theorem dX12_copies_97 : Dc mX12_copies 97 (.imul) 1 98 := ⟨zo_104 (by decide +kernel), rfl⟩
theorem dX12_copies_98 : Dc mX12_copies 98 (.iload_n 3) 1 99 := ⟨zo_29 (by decide +kernel), rfl⟩
theorem dX12_copies_99 : Dc mX12_copies 99 (.iadd) 1 100 := ⟨zo_96 (by decide +kernel), rfl⟩
theorem dX12_copies_100 : Dc mX12_copies 100 (.iaload) 1 101 := ⟨zo_46 (by decide +kernel), rfl⟩
theorem dX12_copies_101 : Dc mX12_copies 101 (.iastore) 1 102 := ⟨zo_79 (by decide +kernel), rfl⟩
theorem dX12_copies_102 : Dc mX12_copies 102 (.aload_n 0) 1 103 := ⟨zo_42 (by decide +kernel), rfl⟩
theorem dX12_copies_103 : Dc mX12_copies 103 (.getfield 105) 3 106 := ⟨zo_180 (w := 0) (x := 105) (by decide +kernel), rfl⟩
theorem dX12_copies_106 : Dc mX12_copies 106 (.bipush 6) 2 108 := ⟨zo_16 (w := 6) (by decide +kernel), rfl⟩
theorem dX12_copies_108 : Dc mX12_copies 108 (.iload_n 1) 1 109 := ⟨zo_27 (by decide +kernel), rfl⟩
theorem dX12_copies_109 : Dc mX12_copies 109 (.imul) 1 110 := ⟨zo_104 (by decide +kernel), rfl⟩
theorem dX12_copies_110 : Dc mX12_copies 110 (.iload_n 3) 1 111 := ⟨zo_29 (by decide +kernel), rfl⟩
theorem dX12_copies_111 : Dc mX12_copies 111 (.iadd) 1 112 := ⟨zo_96 (by decide +kernel), rfl⟩
theorem dX12_copies_112 : Dc mX12_copies 112 (.aload_n 0) 1 113 := ⟨zo_42 (by decide +kernel), rfl⟩
theorem dX12_copies_113 : Dc mX12_copies 113 (.getfield 105) 3 116 := ⟨zo_180 (w := 0) (x := 105) (by decide +kernel), rfl⟩
theorem dX12_copies_116 : Dc mX12_copies 116 (.bipush 6) 2 118 := ⟨zo_16 (w := 6) (by decide +kernel), rfl⟩
theorem dX12_copies_118 : Dc mX12_copies 118 (.iload_n 2) 1 119 := ⟨zo_28 (by decide +kernel), rfl⟩
theorem dX12_copies_119 : Dc mX12_copies 119 (.imul) 1 120 := ⟨zo_104 (by decide +kernel), rfl⟩
theorem dX12_copies_120 : Dc mX12_copies 120 (.iload_n 3) 1 121 := ⟨zo_29 (by decide +kernel), rfl⟩
theorem dX12_copies_121 : Dc mX12_copies 121 (.iadd) 1 122 := ⟨zo_96 (by decide +kernel), rfl⟩
theorem dX12_copies_122 : Dc mX12_copies 122 (.iaload) 1 123 := ⟨zo_46 (by decide +kernel), rfl⟩
theorem dX12_copies_123 : Dc mX12_copies 123 (.iastore) 1 124 := ⟨zo_79 (by decide +kernel), rfl⟩
theorem dX12_copies_124 : Dc mX12_copies 124 (.iinc 3 1) 3 127 := ⟨zo_iinc (x := 1) (by decide +kernel), rfl⟩
theorem dX12_copies_127 : Dc mX12_copies 127 (.goto (-53)) 3 130 := ⟨zo_167 (w := 255) (x := 203) (by decide +kernel), rfl⟩
theorem dX12_copies_130 : Dc mX12_copies 130 (.iconst 0) 1 131 := ⟨zo_3 (by decide +kernel), rfl⟩
theorem dX12_copies_131 : Dc mX12_copies 131 (.istore_n 3) 1 132 := ⟨zo_62 (by decide +kernel), rfl⟩
theorem dX12_copies_132 : Dc mX12_copies 132 (.iload_n 3) 1 133 := ⟨zo_29 (by decide +kernel), rfl⟩
theorem dX12_copies_133 : Dc mX12_copies 133 (.bipush 8) 2 135 := ⟨zo_16 (w := 8) (by decide +kernel), rfl⟩
theorem dX12_copies_135 : Dc mX12_copies 135 (.if_icmp .ge 75) 3 138 := ⟨zo_162 (w := 0) (x := 75) (by decide +kernel), rfl⟩
theorem dX12_copies_138 : Dc mX12_copies 138 (.aload_n 0) 1 139 := ⟨zo_42 (by decide +kernel), rfl⟩
theorem dX12_copies_139 : Dc mX12_copies 139 (.getfield 108) 3 142 := ⟨zo_180 (w := 0) (x := 108) (by decide +kernel), rfl⟩
theorem dX12_copies_142 : Dc mX12_copies 142 (.bipush 8) 2 144 := ⟨zo_16 (w := 8) (by decide +kernel), rfl⟩
theorem dX12_copies_144 : Dc mX12_copies 144 (.iload_n 1) 1 145 := ⟨zo_27 (by decide +kernel), rfl⟩
theorem dX12_copies_145 : Dc mX12_copies 145 (.imul) 1 146 := ⟨zo_104 (by decide +kernel), rfl⟩
theorem dX12_copies_146 : Dc mX12_copies 146 (.iload_n 3) 1 147 := ⟨zo_29 (by decide +kernel), rfl⟩
theorem dX12_copies_147 : Dc mX12_copies 147 (.iadd) 1 148 := ⟨zo_96 (by decide +kernel), rfl⟩
theorem dX12_copies_148 : Dc mX12_copies 148 (.aload_n 0) 1 149 := ⟨zo_42 (by decide +kernel), rfl⟩
theorem dX12_copies_149 : Dc mX12_copies 149 (.getfield 108) 3 152 := ⟨zo_180 (w := 0) (x := 108) (by decide +kernel), rfl⟩
theorem dX12_copies_152 : Dc mX12_copies 152 (.bipush 8) 2 154 := ⟨zo_16 (w := 8) (by decide +kernel), rfl⟩
theorem dX12_copies_154 : Dc mX12_copies 154 (.iload_n 2) 1 155 := ⟨zo_28 (by decide +kernel), rfl⟩
theorem dX12_copies_155 : Dc mX12_copies 155 (.imul) 1 156 := ⟨zo_104 (by decide +kernel), rfl⟩
theorem dX12_copies_156 : Dc mX12_copies 156 (.iload_n 3) 1 157 := ⟨zo_29 (by decide +kernel), rfl⟩
theorem dX12_copies_157 : Dc mX12_copies 157 (.iadd) 1 158 := ⟨zo_96 (by decide +kernel), rfl⟩
theorem dX12_copies_158 : Dc mX12_copies 158 (.iaload) 1 159 := ⟨zo_46 (by decide +kernel), rfl⟩
theorem dX12_copies_159 : Dc mX12_copies 159 (.iastore) 1 160 := ⟨zo_79 (by decide +kernel), rfl⟩
theorem dX12_copies_160 : Dc mX12_copies 160 (.aload_n 0) 1 161 := ⟨zo_42 (by decide +kernel), rfl⟩
theorem dX12_copies_161 : Dc mX12_copies 161 (.getfield 111) 3 164 := ⟨zo_180 (w := 0) (x := 111) (by decide +kernel), rfl⟩
theorem dX12_copies_164 : Dc mX12_copies 164 (.bipush 8) 2 166 := ⟨zo_16 (w := 8) (by decide +kernel), rfl⟩
theorem dX12_copies_166 : Dc mX12_copies 166 (.iload_n 1) 1 167 := ⟨zo_27 (by decide +kernel), rfl⟩
theorem dX12_copies_167 : Dc mX12_copies 167 (.imul) 1 168 := ⟨zo_104 (by decide +kernel), rfl⟩
theorem dX12_copies_168 : Dc mX12_copies 168 (.iload_n 3) 1 169 := ⟨zo_29 (by decide +kernel), rfl⟩
theorem dX12_copies_169 : Dc mX12_copies 169 (.iadd) 1 170 := ⟨zo_96 (by decide +kernel), rfl⟩
theorem dX12_copies_170 : Dc mX12_copies 170 (.aload_n 0) 1 171 := ⟨zo_42 (by decide +kernel), rfl⟩
theorem dX12_copies_171 : Dc mX12_copies 171 (.getfield 111) 3 174 := ⟨zo_180 (w := 0) (x := 111) (by decide +kernel), rfl⟩
theorem dX12_copies_174 : Dc mX12_copies 174 (.bipush 8) 2 176 := ⟨zo_16 (w := 8) (by decide +kernel), rfl⟩
theorem dX12_copies_176 : Dc mX12_copies 176 (.iload_n 2) 1 177 := ⟨zo_28 (by decide +kernel), rfl⟩
theorem dX12_copies_177 : Dc mX12_copies 177 (.imul) 1 178 := ⟨zo_104 (by decide +kernel), rfl⟩
theorem dX12_copies_178 : Dc mX12_copies 178 (.iload_n 3) 1 179 := ⟨zo_29 (by decide +kernel), rfl⟩
theorem dX12_copies_179 : Dc mX12_copies 179 (.iadd) 1 180 := ⟨zo_96 (by decide +kernel), rfl⟩
theorem dX12_copies_180 : Dc mX12_copies 180 (.iaload) 1 181 := ⟨zo_46 (by decide +kernel), rfl⟩
theorem dX12_copies_181 : Dc mX12_copies 181 (.iastore) 1 182 := ⟨zo_79 (by decide +kernel), rfl⟩
theorem dX12_copies_182 : Dc mX12_copies 182 (.aload_n 0) 1 183 := ⟨zo_42 (by decide +kernel), rfl⟩
theorem dX12_copies_183 : Dc mX12_copies 183 (.getfield 114) 3 186 := ⟨zo_180 (w := 0) (x := 114) (by decide +kernel), rfl⟩
theorem dX12_copies_186 : Dc mX12_copies 186 (.bipush 8) 2 188 := ⟨zo_16 (w := 8) (by decide +kernel), rfl⟩
theorem dX12_copies_188 : Dc mX12_copies 188 (.iload_n 1) 1 189 := ⟨zo_27 (by decide +kernel), rfl⟩
theorem dX12_copies_189 : Dc mX12_copies 189 (.imul) 1 190 := ⟨zo_104 (by decide +kernel), rfl⟩
theorem dX12_copies_190 : Dc mX12_copies 190 (.iload_n 3) 1 191 := ⟨zo_29 (by decide +kernel), rfl⟩
theorem dX12_copies_191 : Dc mX12_copies 191 (.iadd) 1 192 := ⟨zo_96 (by decide +kernel), rfl⟩
theorem dX12_copies_192 : Dc mX12_copies 192 (.aload_n 0) 1 193 := ⟨zo_42 (by decide +kernel), rfl⟩
theorem dX12_copies_193 : Dc mX12_copies 193 (.getfield 114) 3 196 := ⟨zo_180 (w := 0) (x := 114) (by decide +kernel), rfl⟩
theorem dX12_copies_196 : Dc mX12_copies 196 (.bipush 8) 2 198 := ⟨zo_16 (w := 8) (by decide +kernel), rfl⟩
theorem dX12_copies_198 : Dc mX12_copies 198 (.iload_n 2) 1 199 := ⟨zo_28 (by decide +kernel), rfl⟩
theorem dX12_copies_199 : Dc mX12_copies 199 (.imul) 1 200 := ⟨zo_104 (by decide +kernel), rfl⟩
theorem dX12_copies_200 : Dc mX12_copies 200 (.iload_n 3) 1 201 := ⟨zo_29 (by decide +kernel), rfl⟩
theorem dX12_copies_201 : Dc mX12_copies 201 (.iadd) 1 202 := ⟨zo_96 (by decide +kernel), rfl⟩
theorem dX12_copies_202 : Dc mX12_copies 202 (.iaload) 1 203 := ⟨zo_46 (by decide +kernel), rfl⟩
theorem dX12_copies_203 : Dc mX12_copies 203 (.iastore) 1 204 := ⟨zo_79 (by decide +kernel), rfl⟩
theorem dX12_copies_204 : Dc mX12_copies 204 (.iinc 3 1) 3 207 := ⟨zo_iinc (x := 1) (by decide +kernel), rfl⟩
theorem dX12_copies_207 : Dc mX12_copies 207 (.goto (-75)) 3 210 := ⟨zo_167 (w := 255) (x := 181) (by decide +kernel), rfl⟩
theorem dX12_copies_210 : Dc mX12_copies 210 (.iconst 0) 1 211 := ⟨zo_3 (by decide +kernel), rfl⟩
theorem dX12_copies_211 : Dc mX12_copies 211 (.istore_n 3) 1 212 := ⟨zo_62 (by decide +kernel), rfl⟩
theorem dX12_copies_212 : Dc mX12_copies 212 (.iload_n 3) 1 213 := ⟨zo_29 (by decide +kernel), rfl⟩
theorem dX12_copies_213 : Dc mX12_copies 213 (.bipush 48) 2 215 := ⟨zo_16 (w := 48) (by decide +kernel), rfl⟩
theorem dX12_copies_215 : Dc mX12_copies 215 (.if_icmp .ge 31) 3 218 := ⟨zo_162 (w := 0) (x := 31) (by decide +kernel), rfl⟩
theorem dX12_copies_218 : Dc mX12_copies 218 (.aload_n 0) 1 219 := ⟨zo_42 (by decide +kernel), rfl⟩
theorem dX12_copies_219 : Dc mX12_copies 219 (.getfield 117) 3 222 := ⟨zo_180 (w := 0) (x := 117) (by decide +kernel), rfl⟩
theorem dX12_copies_222 : Dc mX12_copies 222 (.bipush 48) 2 224 := ⟨zo_16 (w := 48) (by decide +kernel), rfl⟩
theorem dX12_copies_224 : Dc mX12_copies 224 (.iload_n 1) 1 225 := ⟨zo_27 (by decide +kernel), rfl⟩
theorem dX12_copies_225 : Dc mX12_copies 225 (.imul) 1 226 := ⟨zo_104 (by decide +kernel), rfl⟩
theorem dX12_copies_226 : Dc mX12_copies 226 (.iload_n 3) 1 227 := ⟨zo_29 (by decide +kernel), rfl⟩
theorem dX12_copies_227 : Dc mX12_copies 227 (.iadd) 1 228 := ⟨zo_96 (by decide +kernel), rfl⟩
theorem dX12_copies_228 : Dc mX12_copies 228 (.aload_n 0) 1 229 := ⟨zo_42 (by decide +kernel), rfl⟩
theorem dX12_copies_229 : Dc mX12_copies 229 (.getfield 117) 3 232 := ⟨zo_180 (w := 0) (x := 117) (by decide +kernel), rfl⟩
theorem dX12_copies_232 : Dc mX12_copies 232 (.bipush 48) 2 234 := ⟨zo_16 (w := 48) (by decide +kernel), rfl⟩
theorem dX12_copies_234 : Dc mX12_copies 234 (.iload_n 2) 1 235 := ⟨zo_28 (by decide +kernel), rfl⟩
theorem dX12_copies_235 : Dc mX12_copies 235 (.imul) 1 236 := ⟨zo_104 (by decide +kernel), rfl⟩
theorem dX12_copies_236 : Dc mX12_copies 236 (.iload_n 3) 1 237 := ⟨zo_29 (by decide +kernel), rfl⟩
theorem dX12_copies_237 : Dc mX12_copies 237 (.iadd) 1 238 := ⟨zo_96 (by decide +kernel), rfl⟩
theorem dX12_copies_238 : Dc mX12_copies 238 (.iaload) 1 239 := ⟨zo_46 (by decide +kernel), rfl⟩
theorem dX12_copies_239 : Dc mX12_copies 239 (.iastore) 1 240 := ⟨zo_79 (by decide +kernel), rfl⟩
theorem dX12_copies_240 : Dc mX12_copies 240 (.iinc 3 1) 3 243 := ⟨zo_iinc (x := 1) (by decide +kernel), rfl⟩
theorem dX12_copies_243 : Dc mX12_copies 243 (.goto (-31)) 3 246 := ⟨zo_167 (w := 255) (x := 225) (by decide +kernel), rfl⟩
theorem dX12_copies_246 : Dc mX12_copies 246 (.iconst 0) 1 247 := ⟨zo_3 (by decide +kernel), rfl⟩
theorem dX12_copies_247 : Dc mX12_copies 247 (.istore_n 3) 1 248 := ⟨zo_62 (by decide +kernel), rfl⟩
theorem dX12_copies_248 : Dc mX12_copies 248 (.iload_n 3) 1 249 := ⟨zo_29 (by decide +kernel), rfl⟩
theorem dX12_copies_249 : Dc mX12_copies 249 (.iconst 4) 1 250 := ⟨zo_7 (by decide +kernel), rfl⟩
theorem dX12_copies_250 : Dc mX12_copies 250 (.if_icmp .ge 49) 3 253 := ⟨zo_162 (w := 0) (x := 49) (by decide +kernel), rfl⟩
theorem dX12_copies_253 : Dc mX12_copies 253 (.aload_n 0) 1 254 := ⟨zo_42 (by decide +kernel), rfl⟩
theorem dX12_copies_254 : Dc mX12_copies 254 (.getfield 120) 3 257 := ⟨zo_180 (w := 0) (x := 120) (by decide +kernel), rfl⟩
theorem dX12_copies_257 : Dc mX12_copies 257 (.iconst 4) 1 258 := ⟨zo_7 (by decide +kernel), rfl⟩
theorem dX12_copies_258 : Dc mX12_copies 258 (.iload_n 1) 1 259 := ⟨zo_27 (by decide +kernel), rfl⟩
theorem dX12_copies_259 : Dc mX12_copies 259 (.imul) 1 260 := ⟨zo_104 (by decide +kernel), rfl⟩
theorem dX12_copies_260 : Dc mX12_copies 260 (.iload_n 3) 1 261 := ⟨zo_29 (by decide +kernel), rfl⟩
theorem dX12_copies_261 : Dc mX12_copies 261 (.iadd) 1 262 := ⟨zo_96 (by decide +kernel), rfl⟩
theorem dX12_copies_262 : Dc mX12_copies 262 (.aload_n 0) 1 263 := ⟨zo_42 (by decide +kernel), rfl⟩
theorem dX12_copies_263 : Dc mX12_copies 263 (.getfield 120) 3 266 := ⟨zo_180 (w := 0) (x := 120) (by decide +kernel), rfl⟩
theorem dX12_copies_266 : Dc mX12_copies 266 (.iconst 4) 1 267 := ⟨zo_7 (by decide +kernel), rfl⟩
theorem dX12_copies_267 : Dc mX12_copies 267 (.iload_n 2) 1 268 := ⟨zo_28 (by decide +kernel), rfl⟩
theorem dX12_copies_268 : Dc mX12_copies 268 (.imul) 1 269 := ⟨zo_104 (by decide +kernel), rfl⟩
theorem dX12_copies_269 : Dc mX12_copies 269 (.iload_n 3) 1 270 := ⟨zo_29 (by decide +kernel), rfl⟩
theorem dX12_copies_270 : Dc mX12_copies 270 (.iadd) 1 271 := ⟨zo_96 (by decide +kernel), rfl⟩
theorem dX12_copies_271 : Dc mX12_copies 271 (.iaload) 1 272 := ⟨zo_46 (by decide +kernel), rfl⟩
theorem dX12_copies_272 : Dc mX12_copies 272 (.iastore) 1 273 := ⟨zo_79 (by decide +kernel), rfl⟩
theorem dX12_copies_273 : Dc mX12_copies 273 (.aload_n 0) 1 274 := ⟨zo_42 (by decide +kernel), rfl⟩
theorem dX12_copies_274 : Dc mX12_copies 274 (.getfield 123) 3 277 := ⟨zo_180 (w := 0) (x := 123) (by decide +kernel), rfl⟩
theorem dX12_copies_277 : Dc mX12_copies 277 (.iconst 4) 1 278 := ⟨zo_7 (by decide +kernel), rfl⟩
theorem dX12_copies_278 : Dc mX12_copies 278 (.iload_n 1) 1 279 := ⟨zo_27 (by decide +kernel), rfl⟩
theorem dX12_copies_279 : Dc mX12_copies 279 (.imul) 1 280 := ⟨zo_104 (by decide +kernel), rfl⟩
theorem dX12_copies_280 : Dc mX12_copies 280 (.iload_n 3) 1 281 := ⟨zo_29 (by decide +kernel), rfl⟩
theorem dX12_copies_281 : Dc mX12_copies 281 (.iadd) 1 282 := ⟨zo_96 (by decide +kernel), rfl⟩
theorem dX12_copies_282 : Dc mX12_copies 282 (.aload_n 0) 1 283 := ⟨zo_42 (by decide +kernel), rfl⟩
theorem dX12_copies_283 : Dc mX12_copies 283 (.getfield 123) 3 286 := ⟨zo_180 (w := 0) (x := 123) (by decide +kernel), rfl⟩
theorem dX12_copies_286 : Dc mX12_copies 286 (.iconst 4) 1 287 := ⟨zo_7 (by decide +kernel), rfl⟩
theorem dX12_copies_287 : Dc mX12_copies 287 (.iload_n 2) 1 288 := ⟨zo_28 (by decide +kernel), rfl⟩
theorem dX12_copies_288 : Dc mX12_copies 288 (.imul) 1 289 := ⟨zo_104 (by decide +kernel), rfl⟩
theorem dX12_copies_289 : Dc mX12_copies 289 (.iload_n 3) 1 290 := ⟨zo_29 (by decide +kernel), rfl⟩
theorem dX12_copies_290 : Dc mX12_copies 290 (.iadd) 1 291 := ⟨zo_96 (by decide +kernel), rfl⟩
theorem dX12_copies_291 : Dc mX12_copies 291 (.iaload) 1 292 := ⟨zo_46 (by decide +kernel), rfl⟩
theorem dX12_copies_292 : Dc mX12_copies 292 (.iastore) 1 293 := ⟨zo_79 (by decide +kernel), rfl⟩
theorem dX12_copies_293 : Dc mX12_copies 293 (.iinc 3 1) 3 296 := ⟨zo_iinc (x := 1) (by decide +kernel), rfl⟩
theorem dX12_copies_296 : Dc mX12_copies 296 (.goto (-48)) 3 299 := ⟨zo_167 (w := 255) (x := 208) (by decide +kernel), rfl⟩
theorem dX12_copies_299 : Dc mX12_copies 299 (.return_) 1 300 := ⟨zo_177 (by decide +kernel), rfl⟩
theorem dX12_isMark_0 : Dc mX12_isMark 0 (.iload_n 1) 1 1 := ⟨zo_27 (by decide +kernel), rfl⟩
theorem dX12_isMark_1 : Dc mX12_isMark 1 (.ifCond .lt 17) 3 4 := ⟨zo_155 (w := 0) (x := 17) (by decide +kernel), rfl⟩
theorem dX12_isMark_4 : Dc mX12_isMark 4 (.iload_n 1) 1 5 := ⟨zo_27 (by decide +kernel), rfl⟩
theorem dX12_isMark_5 : Dc mX12_isMark 5 (.aload_n 0) 1 6 := ⟨zo_42 (by decide +kernel), rfl⟩
theorem dX12_isMark_6 : Dc mX12_isMark 6 (.getfield 13) 3 9 := ⟨zo_180 (w := 0) (x := 13) (by decide +kernel), rfl⟩
theorem dX12_isMark_9 : Dc mX12_isMark 9 (.iconst 0) 1 10 := ⟨zo_3 (by decide +kernel), rfl⟩
theorem dX12_isMark_10 : Dc mX12_isMark 10 (.iaload) 1 11 := ⟨zo_46 (by decide +kernel), rfl⟩
theorem dX12_isMark_11 : Dc mX12_isMark 11 (.if_icmp .ge 7) 3 14 := ⟨zo_162 (w := 0) (x := 7) (by decide +kernel), rfl⟩
theorem dX12_isMark_14 : Dc mX12_isMark 14 (.iconst 1) 1 15 := ⟨zo_4 (by decide +kernel), rfl⟩
theorem dX12_isMark_15 : Dc mX12_isMark 15 (.goto 4) 3 18 := ⟨zo_167 (w := 0) (x := 4) (by decide +kernel), rfl⟩
theorem dX12_isMark_18 : Dc mX12_isMark 18 (.iconst 0) 1 19 := ⟨zo_3 (by decide +kernel), rfl⟩
theorem dX12_isMark_19 : Dc mX12_isMark 19 (.ireturn) 1 20 := ⟨zo_172 (by decide +kernel), rfl⟩
theorem dX12_isShot_0 : Dc mX12_isShot 0 (.iload_n 1) 1 1 := ⟨zo_27 (by decide +kernel), rfl⟩
theorem dX12_isShot_1 : Dc mX12_isShot 1 (.ifCond .lt 17) 3 4 := ⟨zo_155 (w := 0) (x := 17) (by decide +kernel), rfl⟩
theorem dX12_isShot_4 : Dc mX12_isShot 4 (.iload_n 1) 1 5 := ⟨zo_27 (by decide +kernel), rfl⟩
theorem dX12_isShot_5 : Dc mX12_isShot 5 (.aload_n 0) 1 6 := ⟨zo_42 (by decide +kernel), rfl⟩
theorem dX12_isShot_6 : Dc mX12_isShot 6 (.getfield 13) 3 9 := ⟨zo_180 (w := 0) (x := 13) (by decide +kernel), rfl⟩
theorem dX12_isShot_9 : Dc mX12_isShot 9 (.iconst 1) 1 10 := ⟨zo_4 (by decide +kernel), rfl⟩
theorem dX12_isShot_10 : Dc mX12_isShot 10 (.iaload) 1 11 := ⟨zo_46 (by decide +kernel), rfl⟩
theorem dX12_isShot_11 : Dc mX12_isShot 11 (.if_icmp .ge 7) 3 14 := ⟨zo_162 (w := 0) (x := 7) (by decide +kernel), rfl⟩
theorem dX12_isShot_14 : Dc mX12_isShot 14 (.iconst 1) 1 15 := ⟨zo_4 (by decide +kernel), rfl⟩
theorem dX12_isShot_15 : Dc mX12_isShot 15 (.goto 4) 3 18 := ⟨zo_167 (w := 0) (x := 4) (by decide +kernel), rfl⟩
theorem dX12_isShot_18 : Dc mX12_isShot 18 (.iconst 0) 1 19 := ⟨zo_3 (by decide +kernel), rfl⟩
theorem dX12_isShot_19 : Dc mX12_isShot 19 (.ireturn) 1 20 := ⟨zo_172 (by decide +kernel), rfl⟩
theorem dX12_isParty_0 : Dc mX12_isParty 0 (.iload_n 1) 1 1 := ⟨zo_27 (by decide +kernel), rfl⟩
theorem dX12_isParty_1 : Dc mX12_isParty 1 (.ifCond .lt 17) 3 4 := ⟨zo_155 (w := 0) (x := 17) (by decide +kernel), rfl⟩
theorem dX12_isParty_4 : Dc mX12_isParty 4 (.iload_n 1) 1 5 := ⟨zo_27 (by decide +kernel), rfl⟩
theorem dX12_isParty_5 : Dc mX12_isParty 5 (.aload_n 0) 1 6 := ⟨zo_42 (by decide +kernel), rfl⟩
theorem dX12_isParty_6 : Dc mX12_isParty 6 (.getfield 13) 3 9 := ⟨zo_180 (w := 0) (x := 13) (by decide +kernel), rfl⟩
theorem dX12_isParty_9 : Dc mX12_isParty 9 (.iconst 3) 1 10 := ⟨zo_6 (by decide +kernel), rfl⟩
theorem dX12_isParty_10 : Dc mX12_isParty 10 (.iaload) 1 11 := ⟨zo_46 (by decide +kernel), rfl⟩
theorem dX12_isParty_11 : Dc mX12_isParty 11 (.if_icmp .ge 7) 3 14 := ⟨zo_162 (w := 0) (x := 7) (by decide +kernel), rfl⟩
theorem dX12_isParty_14 : Dc mX12_isParty 14 (.iconst 1) 1 15 := ⟨zo_4 (by decide +kernel), rfl⟩
theorem dX12_isParty_15 : Dc mX12_isParty 15 (.goto 4) 3 18 := ⟨zo_167 (w := 0) (x := 4) (by decide +kernel), rfl⟩
theorem dX12_isParty_18 : Dc mX12_isParty 18 (.iconst 0) 1 19 := ⟨zo_3 (by decide +kernel), rfl⟩
theorem dX12_isParty_19 : Dc mX12_isParty 19 (.ireturn) 1 20 := ⟨zo_172 (by decide +kernel), rfl⟩
theorem dX12_isDone_0 : Dc mX12_isDone 0 (.aload_n 0) 1 1 := ⟨zo_42 (by decide +kernel), rfl⟩
theorem dX12_isDone_1 : Dc mX12_isDone 1 (.getfield 111) 3 4 := ⟨zo_180 (w := 0) (x := 111) (by decide +kernel), rfl⟩
theorem dX12_isDone_4 : Dc mX12_isDone 4 (.bipush 8) 2 6 := ⟨zo_16 (w := 8) (by decide +kernel), rfl⟩
theorem dX12_isDone_6 : Dc mX12_isDone 6 (.iload_n 1) 1 7 := ⟨zo_27 (by decide +kernel), rfl⟩
theorem dX12_isDone_7 : Dc mX12_isDone 7 (.imul) 1 8 := ⟨zo_104 (by decide +kernel), rfl⟩
theorem dX12_isDone_8 : Dc mX12_isDone 8 (.iload_n 2) 1 9 := ⟨zo_28 (by decide +kernel), rfl⟩
theorem dX12_isDone_9 : Dc mX12_isDone 9 (.iadd) 1 10 := ⟨zo_96 (by decide +kernel), rfl⟩
theorem dX12_isDone_10 : Dc mX12_isDone 10 (.iaload) 1 11 := ⟨zo_46 (by decide +kernel), rfl⟩
theorem dX12_isDone_11 : Dc mX12_isDone 11 (.iconst 1) 1 12 := ⟨zo_4 (by decide +kernel), rfl⟩
theorem dX12_isDone_12 : Dc mX12_isDone 12 (.if_icmp .ne 7) 3 15 := ⟨zo_160 (w := 0) (x := 7) (by decide +kernel), rfl⟩
theorem dX12_isDone_15 : Dc mX12_isDone 15 (.iconst 1) 1 16 := ⟨zo_4 (by decide +kernel), rfl⟩
theorem dX12_isDone_16 : Dc mX12_isDone 16 (.goto 4) 3 19 := ⟨zo_167 (w := 0) (x := 4) (by decide +kernel), rfl⟩
theorem dX12_isDone_19 : Dc mX12_isDone 19 (.iconst 0) 1 20 := ⟨zo_3 (by decide +kernel), rfl⟩
theorem dX12_isDone_20 : Dc mX12_isDone 20 (.ireturn) 1 21 := ⟨zo_172 (by decide +kernel), rfl⟩
theorem dX12_wayIn_0 : Dc mX12_wayIn 0 (.aload_n 0) 1 1 := ⟨zo_42 (by decide +kernel), rfl⟩
theorem dX12_wayIn_1 : Dc mX12_wayIn 1 (.getfield 117) 3 4 := ⟨zo_180 (w := 0) (x := 117) (by decide +kernel), rfl⟩
theorem dX12_wayIn_4 : Dc mX12_wayIn 4 (.bipush 48) 2 6 := ⟨zo_16 (w := 48) (by decide +kernel), rfl⟩
theorem dX12_wayIn_6 : Dc mX12_wayIn 6 (.iload_n 1) 1 7 := ⟨zo_27 (by decide +kernel), rfl⟩
theorem dX12_wayIn_7 : Dc mX12_wayIn 7 (.imul) 1 8 := ⟨zo_104 (by decide +kernel), rfl⟩
theorem dX12_wayIn_8 : Dc mX12_wayIn 8 (.bipush 6) 2 10 := ⟨zo_16 (w := 6) (by decide +kernel), rfl⟩
theorem dX12_wayIn_10 : Dc mX12_wayIn 10 (.iload_n 2) 1 11 := ⟨zo_28 (by decide +kernel), rfl⟩
theorem dX12_wayIn_11 : Dc mX12_wayIn 11 (.imul) 1 12 := ⟨zo_104 (by decide +kernel), rfl⟩
theorem dX12_wayIn_12 : Dc mX12_wayIn 12 (.iadd) 1 13 := ⟨zo_96 (by decide +kernel), rfl⟩
theorem dX12_wayIn_13 : Dc mX12_wayIn 13 (.iload_n 3) 1 14 := ⟨zo_29 (by decide +kernel), rfl⟩
theorem dX12_wayIn_14 : Dc mX12_wayIn 14 (.iadd) 1 15 := ⟨zo_96 (by decide +kernel), rfl⟩
theorem dX12_wayIn_15 : Dc mX12_wayIn 15 (.iaload) 1 16 := ⟨zo_46 (by decide +kernel), rfl⟩
theorem dX12_wayIn_16 : Dc mX12_wayIn 16 (.ireturn) 1 17 := ⟨zo_172 (by decide +kernel), rfl⟩
theorem dX12_strikeOf_0 : Dc mX12_strikeOf 0 (.aload_n 0) 1 1 := ⟨zo_42 (by decide +kernel), rfl⟩
theorem dX12_strikeOf_1 : Dc mX12_strikeOf 1 (.getfield 361) 3 4 := ⟨zo_180 (w := 1) (x := 105) (by decide +kernel), rfl⟩
theorem dX12_strikeOf_4 : Dc mX12_strikeOf 4 (.iconst 5) 1 5 := ⟨zo_8 (by decide +kernel), rfl⟩
theorem dX12_strikeOf_5 : Dc mX12_strikeOf 5 (.if_icmp .ne 8) 3 8 := ⟨zo_160 (w := 0) (x := 8) (by decide +kernel), rfl⟩
theorem dX12_strikeOf_8 : Dc mX12_strikeOf 8 (.bipush 99) 2 10 := ⟨zo_16 (w := 99) (by decide +kernel), rfl⟩
theorem dX12_strikeOf_10 : Dc mX12_strikeOf 10 (.goto 24) 3 13 := ⟨zo_167 (w := 0) (x := 24) (by decide +kernel), rfl⟩
theorem dX12_strikeOf_13 : Dc mX12_strikeOf 13 (.iload_n 1) 1 14 := ⟨zo_27 (by decide +kernel), rfl⟩
theorem dX12_strikeOf_14 : Dc mX12_strikeOf 14 (.aload_n 0) 1 15 := ⟨zo_42 (by decide +kernel), rfl⟩
theorem dX12_strikeOf_15 : Dc mX12_strikeOf 15 (.getfield 129) 3 18 := ⟨zo_180 (w := 0) (x := 129) (by decide +kernel), rfl⟩
theorem dX12_strikeOf_18 : Dc mX12_strikeOf 18 (.if_icmp .ne 10) 3 21 := ⟨zo_160 (w := 0) (x := 10) (by decide +kernel), rfl⟩
theorem dX12_strikeOf_21 : Dc mX12_strikeOf 21 (.aload_n 0) 1 22 := ⟨zo_42 (by decide +kernel), rfl⟩
theorem dX12_strikeOf_22 : Dc mX12_strikeOf 22 (.getfield 364) 3 25 := ⟨zo_180 (w := 1) (x := 108) (by decide +kernel), rfl⟩
theorem dX12_strikeOf_25 : Dc mX12_strikeOf 25 (.goto 9) 3 28 := ⟨zo_167 (w := 0) (x := 9) (by decide +kernel), rfl⟩
theorem dX12_strikeOf_28 : Dc mX12_strikeOf 28 (.aload_n 0) 1 29 := ⟨zo_42 (by decide +kernel), rfl⟩
theorem dX12_strikeOf_29 : Dc mX12_strikeOf 29 (.getfield 19) 3 32 := ⟨zo_180 (w := 0) (x := 19) (by decide +kernel), rfl⟩
theorem dX12_strikeOf_32 : Dc mX12_strikeOf 32 (.iload_n 1) 1 33 := ⟨zo_27 (by decide +kernel), rfl⟩
theorem dX12_strikeOf_33 : Dc mX12_strikeOf 33 (.iaload) 1 34 := ⟨zo_46 (by decide +kernel), rfl⟩
theorem dX12_strikeOf_34 : Dc mX12_strikeOf 34 (.ireturn) 1 35 := ⟨zo_172 (by decide +kernel), rfl⟩
theorem dX12_timesOf_0 : Dc mX12_timesOf 0 (.iconst 0) 1 1 := ⟨zo_3 (by decide +kernel), rfl⟩
theorem dX12_timesOf_1 : Dc mX12_timesOf 1 (.istore 4) 2 3 := ⟨zo_54 (by decide +kernel), rfl⟩
theorem dX12_timesOf_3 : Dc mX12_timesOf 3 (.iconst 0) 1 4 := ⟨zo_3 (by decide +kernel), rfl⟩
theorem dX12_timesOf_4 : Dc mX12_timesOf 4 (.istore 5) 2 6 := ⟨zo_54 (by decide +kernel), rfl⟩
theorem dX12_timesOf_6 : Dc mX12_timesOf 6 (.iload 5) 2 8 := ⟨zo_21 (by decide +kernel), rfl⟩
theorem dX12_timesOf_8 : Dc mX12_timesOf 8 (.aload_n 0) 1 9 := ⟨zo_42 (by decide +kernel), rfl⟩
theorem dX12_timesOf_9 : Dc mX12_timesOf 9 (.getfield 13) 3 12 := ⟨zo_180 (w := 0) (x := 13) (by decide +kernel), rfl⟩
theorem dX12_timesOf_12 : Dc mX12_timesOf 12 (.iconst 1) 1 13 := ⟨zo_4 (by decide +kernel), rfl⟩
theorem dX12_timesOf_13 : Dc mX12_timesOf 13 (.iaload) 1 14 := ⟨zo_46 (by decide +kernel), rfl⟩
theorem dX12_timesOf_14 : Dc mX12_timesOf 14 (.if_icmp .ge 47) 3 17 := ⟨zo_162 (w := 0) (x := 47) (by decide +kernel), rfl⟩
theorem dX12_timesOf_17 : Dc mX12_timesOf 17 (.iload 4) 2 19 := ⟨zo_21 (by decide +kernel), rfl⟩
theorem dX12_timesOf_19 : Dc mX12_timesOf 19 (.iload 5) 2 21 := ⟨zo_21 (by decide +kernel), rfl⟩
theorem dX12_timesOf_21 : Dc mX12_timesOf 21 (.iload_n 3) 1 22 := ⟨zo_29 (by decide +kernel), rfl⟩
theorem dX12_timesOf_22 : Dc mX12_timesOf 22 (.if_icmp .eq 29) 3 25 := ⟨zo_159 (w := 0) (x := 29) (by decide +kernel), rfl⟩
theorem dX12_timesOf_25 : Dc mX12_timesOf 25 (.aload_n 0) 1 26 := ⟨zo_42 (by decide +kernel), rfl⟩
theorem dX12_timesOf_26 : Dc mX12_timesOf 26 (.iload_n 1) 1 27 := ⟨zo_27 (by decide +kernel), rfl⟩
theorem dX12_timesOf_27 : Dc mX12_timesOf 27 (.iload 5) 2 29 := ⟨zo_21 (by decide +kernel), rfl⟩
theorem dX12_timesOf_29 : Dc mX12_timesOf 29 (.invokevirtual 367) 3 32 := ⟨zo_182 (w := 1) (x := 111) (by decide +kernel), rfl⟩
theorem dX12_timesOf_32 : Dc mX12_timesOf 32 (.ifCond .eq 19) 3 35 := ⟨zo_153 (w := 0) (x := 19) (by decide +kernel), rfl⟩
theorem dX12_timesOf_35 : Dc mX12_timesOf 35 (.aload_n 0) 1 36 := ⟨zo_42 (by decide +kernel), rfl⟩
theorem dX12_timesOf_36 : Dc mX12_timesOf 36 (.iload_n 1) 1 37 := ⟨zo_27 (by decide +kernel), rfl⟩
theorem dX12_timesOf_37 : Dc mX12_timesOf 37 (.iload 5) 2 39 := ⟨zo_21 (by decide +kernel), rfl⟩
theorem dX12_timesOf_39 : Dc mX12_timesOf 39 (.iload_n 2) 1 40 := ⟨zo_28 (by decide +kernel), rfl⟩
theorem dX12_timesOf_40 : Dc mX12_timesOf 40 (.invokevirtual 371) 3 43 := ⟨zo_182 (w := 1) (x := 115) (by decide +kernel), rfl⟩
theorem dX12_timesOf_43 : Dc mX12_timesOf 43 (.iconst (-1)) 1 44 := ⟨zo_2 (by decide +kernel), rfl⟩
theorem dX12_timesOf_44 : Dc mX12_timesOf 44 (.if_icmp .eq 7) 3 47 := ⟨zo_159 (w := 0) (x := 7) (by decide +kernel), rfl⟩
theorem dX12_timesOf_47 : Dc mX12_timesOf 47 (.iconst 1) 1 48 := ⟨zo_4 (by decide +kernel), rfl⟩
theorem dX12_timesOf_48 : Dc mX12_timesOf 48 (.goto 4) 3 51 := ⟨zo_167 (w := 0) (x := 4) (by decide +kernel), rfl⟩
theorem dX12_timesOf_51 : Dc mX12_timesOf 51 (.iconst 0) 1 52 := ⟨zo_3 (by decide +kernel), rfl⟩
theorem dX12_timesOf_52 : Dc mX12_timesOf 52 (.iadd) 1 53 := ⟨zo_96 (by decide +kernel), rfl⟩
theorem dX12_timesOf_53 : Dc mX12_timesOf 53 (.istore 4) 2 55 := ⟨zo_54 (by decide +kernel), rfl⟩
theorem dX12_timesOf_55 : Dc mX12_timesOf 55 (.iinc 5 1) 3 58 := ⟨zo_iinc (x := 1) (by decide +kernel), rfl⟩
theorem dX12_timesOf_58 : Dc mX12_timesOf 58 (.goto (-52)) 3 61 := ⟨zo_167 (w := 255) (x := 204) (by decide +kernel), rfl⟩
theorem dX12_timesOf_61 : Dc mX12_timesOf 61 (.iload 4) 2 63 := ⟨zo_21 (by decide +kernel), rfl⟩
theorem dX12_timesOf_63 : Dc mX12_timesOf 63 (.ireturn) 1 64 := ⟨zo_172 (by decide +kernel), rfl⟩
theorem dX12_callsMark_0 : Dc mX12_callsMark 0 (.aload_n 0) 1 1 := ⟨zo_42 (by decide +kernel), rfl⟩
theorem dX12_callsMark_1 : Dc mX12_callsMark 1 (.getfield 77) 3 4 := ⟨zo_180 (w := 0) (x := 77) (by decide +kernel), rfl⟩
theorem dX12_callsMark_4 : Dc mX12_callsMark 4 (.iconst 0) 1 5 := ⟨zo_3 (by decide +kernel), rfl⟩
theorem dX12_callsMark_5 : Dc mX12_callsMark 5 (.aload_n 0) 1 6 := ⟨zo_42 (by decide +kernel), rfl⟩
theorem dX12_callsMark_6 : Dc mX12_callsMark 6 (.iload_n 2) 1 7 := ⟨zo_28 (by decide +kernel), rfl⟩
theorem dX12_callsMark_7 : Dc mX12_callsMark 7 (.invokevirtual 375) 3 10 := ⟨zo_182 (w := 1) (x := 119) (by decide +kernel), rfl⟩
theorem dX12_callsMark_10 : Dc mX12_callsMark 10 (.i2l) 1 11 := ⟨zo_133 (by decide +kernel), rfl⟩
theorem dX12_callsMark_11 : Dc mX12_callsMark 11 (.lastore) 1 12 := ⟨zo_80 (by decide +kernel), rfl⟩
theorem dX12_callsMark_12 : Dc mX12_callsMark 12 (.aload_n 0) 1 13 := ⟨zo_42 (by decide +kernel), rfl⟩
theorem dX12_callsMark_13 : Dc mX12_callsMark 13 (.getfield 77) 3 16 := ⟨zo_180 (w := 0) (x := 77) (by decide +kernel), rfl⟩
theorem dX12_callsMark_16 : Dc mX12_callsMark 16 (.iconst 1) 1 17 := ⟨zo_4 (by decide +kernel), rfl⟩
theorem dX12_callsMark_17 : Dc mX12_callsMark 17 (.aload_n 0) 1 18 := ⟨zo_42 (by decide +kernel), rfl⟩
theorem dX12_callsMark_18 : Dc mX12_callsMark 18 (.getfield 105) 3 21 := ⟨zo_180 (w := 0) (x := 105) (by decide +kernel), rfl⟩
theorem dX12_callsMark_21 : Dc mX12_callsMark 21 (.bipush 6) 2 23 := ⟨zo_16 (w := 6) (by decide +kernel), rfl⟩
theorem dX12_callsMark_23 : Dc mX12_callsMark 23 (.iload_n 1) 1 24 := ⟨zo_27 (by decide +kernel), rfl⟩
theorem dX12_callsMark_24 : Dc mX12_callsMark 24 (.imul) 1 25 := ⟨zo_104 (by decide +kernel), rfl⟩
theorem dX12_callsMark_25 : Dc mX12_callsMark 25 (.iload_n 2) 1 26 := ⟨zo_28 (by decide +kernel), rfl⟩
theorem dX12_callsMark_26 : Dc mX12_callsMark 26 (.iadd) 1 27 := ⟨zo_96 (by decide +kernel), rfl⟩
theorem dX12_callsMark_27 : Dc mX12_callsMark 27 (.iaload) 1 28 := ⟨zo_46 (by decide +kernel), rfl⟩
theorem dX12_callsMark_28 : Dc mX12_callsMark 28 (.iload_n 3) 1 29 := ⟨zo_29 (by decide +kernel), rfl⟩
theorem dX12_callsMark_29 : Dc mX12_callsMark 29 (.iadd) 1 30 := ⟨zo_96 (by decide +kernel), rfl⟩
theorem dX12_callsMark_30 : Dc mX12_callsMark 30 (.i2l) 1 31 := ⟨zo_133 (by decide +kernel), rfl⟩
theorem dX12_callsMark_31 : Dc mX12_callsMark 31 (.lastore) 1 32 := ⟨zo_80 (by decide +kernel), rfl⟩
theorem dX12_callsMark_32 : Dc mX12_callsMark 32 (.aload_n 0) 1 33 := ⟨zo_42 (by decide +kernel), rfl⟩
theorem dX12_callsMark_33 : Dc mX12_callsMark 33 (.getfield 77) 3 36 := ⟨zo_180 (w := 0) (x := 77) (by decide +kernel), rfl⟩
theorem dX12_callsMark_36 : Dc mX12_callsMark 36 (.iconst 2) 1 37 := ⟨zo_5 (by decide +kernel), rfl⟩
theorem dX12_callsMark_37 : Dc mX12_callsMark 37 (.aload_n 0) 1 38 := ⟨zo_42 (by decide +kernel), rfl⟩
theorem dX12_callsMark_38 : Dc mX12_callsMark 38 (.getfield 102) 3 41 := ⟨zo_180 (w := 0) (x := 102) (by decide +kernel), rfl⟩
theorem dX12_callsMark_41 : Dc mX12_callsMark 41 (.bipush 6) 2 43 := ⟨zo_16 (w := 6) (by decide +kernel), rfl⟩
theorem dX12_callsMark_43 : Dc mX12_callsMark 43 (.iload_n 1) 1 44 := ⟨zo_27 (by decide +kernel), rfl⟩
theorem dX12_callsMark_44 : Dc mX12_callsMark 44 (.imul) 1 45 := ⟨zo_104 (by decide +kernel), rfl⟩
theorem dX12_callsMark_45 : Dc mX12_callsMark 45 (.iload_n 2) 1 46 := ⟨zo_28 (by decide +kernel), rfl⟩
theorem dX12_callsMark_46 : Dc mX12_callsMark 46 (.iadd) 1 47 := ⟨zo_96 (by decide +kernel), rfl⟩
theorem dX12_callsMark_47 : Dc mX12_callsMark 47 (.iaload) 1 48 := ⟨zo_46 (by decide +kernel), rfl⟩
theorem dX12_callsMark_48 : Dc mX12_callsMark 48 (.iconst (-1)) 1 49 := ⟨zo_2 (by decide +kernel), rfl⟩
theorem dX12_callsMark_49 : Dc mX12_callsMark 49 (.if_icmp .eq 7) 3 52 := ⟨zo_159 (w := 0) (x := 7) (by decide +kernel), rfl⟩
theorem dX12_callsMark_52 : Dc mX12_callsMark 52 (.lconst 1) 1 53 := ⟨zo_10 (by decide +kernel), rfl⟩
theorem dX12_callsMark_53 : Dc mX12_callsMark 53 (.goto 4) 3 56 := ⟨zo_167 (w := 0) (x := 4) (by decide +kernel), rfl⟩
theorem dX12_callsMark_56 : Dc mX12_callsMark 56 (.lconst 0) 1 57 := ⟨zo_9 (by decide +kernel), rfl⟩
theorem dX12_callsMark_57 : Dc mX12_callsMark 57 (.lastore) 1 58 := ⟨zo_80 (by decide +kernel), rfl⟩
theorem dX12_callsMark_58 : Dc mX12_callsMark 58 (.aload_n 0) 1 59 := ⟨zo_42 (by decide +kernel), rfl⟩
theorem dX12_callsMark_59 : Dc mX12_callsMark 59 (.getfield 77) 3 62 := ⟨zo_180 (w := 0) (x := 77) (by decide +kernel), rfl⟩
theorem dX12_callsMark_62 : Dc mX12_callsMark 62 (.iconst 3) 1 63 := ⟨zo_6 (by decide +kernel), rfl⟩
theorem dX12_callsMark_63 : Dc mX12_callsMark 63 (.aload_n 0) 1 64 := ⟨zo_42 (by decide +kernel), rfl⟩
theorem dX12_callsMark_64 : Dc mX12_callsMark 64 (.iload_n 1) 1 65 := ⟨zo_27 (by decide +kernel), rfl⟩
theorem dX12_callsMark_65 : Dc mX12_callsMark 65 (.iload_n 2) 1 66 := ⟨zo_28 (by decide +kernel), rfl⟩
theorem dX12_callsMark_66 : Dc mX12_callsMark 66 (.iload 4) 2 68 := ⟨zo_21 (by decide +kernel), rfl⟩
theorem dX12_callsMark_68 : Dc mX12_callsMark 68 (.invokevirtual 378) 3 71 := ⟨zo_182 (w := 1) (x := 122) (by decide +kernel), rfl⟩
theorem dX12_callsMark_71 : Dc mX12_callsMark 71 (.i2l) 1 72 := ⟨zo_133 (by decide +kernel), rfl⟩
theorem dX12_callsMark_72 : Dc mX12_callsMark 72 (.lastore) 1 73 := ⟨zo_80 (by decide +kernel), rfl⟩
theorem dX12_callsMark_73 : Dc mX12_callsMark 73 (.aload_n 0) 1 74 := ⟨zo_42 (by decide +kernel), rfl⟩
theorem dX12_callsMark_74 : Dc mX12_callsMark 74 (.getfield 77) 3 77 := ⟨zo_180 (w := 0) (x := 77) (by decide +kernel), rfl⟩
theorem dX12_callsMark_77 : Dc mX12_callsMark 77 (.iconst 4) 1 78 := ⟨zo_7 (by decide +kernel), rfl⟩
theorem dX12_callsMark_78 : Dc mX12_callsMark 78 (.iload 5) 2 80 := ⟨zo_21 (by decide +kernel), rfl⟩
theorem dX12_callsMark_80 : Dc mX12_callsMark 80 (.i2l) 1 81 := ⟨zo_133 (by decide +kernel), rfl⟩
theorem dX12_callsMark_81 : Dc mX12_callsMark 81 (.lastore) 1 82 := ⟨zo_80 (by decide +kernel), rfl⟩
theorem dX12_callsMark_82 : Dc mX12_callsMark 82 (.aload_n 0) 1 83 := ⟨zo_42 (by decide +kernel), rfl⟩
theorem dX12_callsMark_83 : Dc mX12_callsMark 83 (.getfield 77) 3 86 := ⟨zo_180 (w := 0) (x := 77) (by decide +kernel), rfl⟩
theorem dX12_callsMark_86 : Dc mX12_callsMark 86 (.iconst 5) 1 87 := ⟨zo_8 (by decide +kernel), rfl⟩
theorem dX12_callsMark_87 : Dc mX12_callsMark 87 (.aload_n 0) 1 88 := ⟨zo_42 (by decide +kernel), rfl⟩
theorem dX12_callsMark_88 : Dc mX12_callsMark 88 (.getfield 84) 3 91 := ⟨zo_180 (w := 0) (x := 84) (by decide +kernel), rfl⟩
theorem dX12_callsMark_91 : Dc mX12_callsMark 91 (.iload_n 1) 1 92 := ⟨zo_27 (by decide +kernel), rfl⟩
theorem dX12_callsMark_92 : Dc mX12_callsMark 92 (.iaload) 1 93 := ⟨zo_46 (by decide +kernel), rfl⟩
theorem dX12_callsMark_93 : Dc mX12_callsMark 93 (.i2l) 1 94 := ⟨zo_133 (by decide +kernel), rfl⟩
theorem dX12_callsMark_94 : Dc mX12_callsMark 94 (.lastore) 1 95 := ⟨zo_80 (by decide +kernel), rfl⟩
theorem dX12_callsMark_95 : Dc mX12_callsMark 95 (.aload_n 0) 1 96 := ⟨zo_42 (by decide +kernel), rfl⟩
theorem dX12_callsMark_96 : Dc mX12_callsMark 96 (.getfield 77) 3 99 := ⟨zo_180 (w := 0) (x := 77) (by decide +kernel), rfl⟩
theorem dX12_callsMark_99 : Dc mX12_callsMark 99 (.bipush 6) 2 101 := ⟨zo_16 (w := 6) (by decide +kernel), rfl⟩
theorem dX12_callsMark_101 : Dc mX12_callsMark 101 (.aload_n 0) 1 102 := ⟨zo_42 (by decide +kernel), rfl⟩
theorem dX12_callsMark_102 : Dc mX12_callsMark 102 (.getfield 96) 3 105 := ⟨zo_180 (w := 0) (x := 96) (by decide +kernel), rfl⟩
theorem dX12_callsMark_105 : Dc mX12_callsMark 105 (.iload_n 1) 1 106 := ⟨zo_27 (by decide +kernel), rfl⟩
