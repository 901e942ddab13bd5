theorem nbd_121 : (Jvm.Cond.methodLinkNest "HeatNetwork" (9 : Nat) ({ cls := "HeatNetwork$Network", name := "<init>", desc := "()V" } : Jvm.MethodName) "HeatNetwork") ∈ NB := List.mem_filter.mpr ⟨List.mem_of_getElem? (i := 121) (by decide +kernel), rfl⟩
theorem nbd_220 : (Jvm.Cond.methodLinkNest "HeatNetwork" (28 : Nat) ({ cls := "HeatNetwork$Shape", name := "<init>", desc := "()V" } : Jvm.MethodName) "HeatNetwork") ∈ NB := List.mem_filter.mpr ⟨List.mem_of_getElem? (i := 220) (by decide +kernel), rfl⟩
theorem nbd_272 : (Jvm.Cond.methodLinkNest "HeatNetwork" (35 : Nat) ({ cls := "HeatNetwork$State", name := "<init>", desc := "()V" } : Jvm.MethodName) "HeatNetwork") ∈ NB := List.mem_filter.mpr ⟨List.mem_of_getElem? (i := 272) (by decide +kernel), rfl⟩
theorem nbd_330 : (Jvm.Cond.methodLinkNest "HeatNetwork" (45 : Nat) ({ cls := "HeatNetwork$Text", name := "<init>", desc := "()V" } : Jvm.MethodName) "HeatNetwork") ∈ NB := List.mem_filter.mpr ⟨List.mem_of_getElem? (i := 330) (by decide +kernel), rfl⟩
theorem nbd_428 : (Jvm.Cond.methodLinkNest "HeatNetwork$Shape" (66 : Nat) ({ cls := "HeatNetwork", name := "isNode", desc := "(I)Z" } : Jvm.MethodName) "HeatNetwork") ∈ NB := List.mem_filter.mpr ⟨List.mem_of_getElem? (i := 428) (by decide +kernel), rfl⟩
theorem nbd_442 : (Jvm.Cond.methodLinkNest "HeatNetwork$Shape" (74 : Nat) ({ cls := "HeatNetwork", name := "isPipe", desc := "(I)Z" } : Jvm.MethodName) "HeatNetwork") ∈ NB := List.mem_filter.mpr ⟨List.mem_of_getElem? (i := 442) (by decide +kernel), rfl⟩
theorem nbd_470 : (Jvm.Cond.methodLinkNest "HeatNetwork$Network" (83 : Nat) ({ cls := "HeatNetwork", name := "isNode", desc := "(I)Z" } : Jvm.MethodName) "HeatNetwork") ∈ NB := List.mem_filter.mpr ⟨List.mem_of_getElem? (i := 470) (by decide +kernel), rfl⟩
theorem nbd_492 : (Jvm.Cond.methodLinkNest "HeatNetwork$State" (144 : Nat) ({ cls := "HeatNetwork", name := "isNode", desc := "(I)Z" } : Jvm.MethodName) "HeatNetwork") ∈ NB := List.mem_filter.mpr ⟨List.mem_of_getElem? (i := 492) (by decide +kernel), rfl⟩
theorem nbd_497 : (Jvm.Cond.methodLinkNest "HeatNetwork$State" (174 : Nat) ({ cls := "HeatNetwork", name := "isPipe", desc := "(I)Z" } : Jvm.MethodName) "HeatNetwork") ∈ NB := List.mem_filter.mpr ⟨List.mem_of_getElem? (i := 497) (by decide +kernel), rfl⟩
theorem nbd_744 : (Jvm.Cond.methodLinkNest "HeatNetwork$Network" (87 : Nat) ({ cls := "HeatNetwork", name := "isWithin", desc := "(III)Z" } : Jvm.MethodName) "HeatNetwork") ∈ NB := List.mem_filter.mpr ⟨List.mem_of_getElem? (i := 744) (by decide +kernel), rfl⟩
theorem nbd_977 : (Jvm.Cond.methodLinkNest "HeatNetwork$Text" (50 : Nat) ({ cls := "HeatNetwork", name := "isWithin", desc := "(III)Z" } : Jvm.MethodName) "HeatNetwork") ∈ NB := List.mem_filter.mpr ⟨List.mem_of_getElem? (i := 977) (by decide +kernel), rfl⟩
theorem kd_0 : kd 0 = .inr 6 := by decide +kernel
theorem kd_1 : kd 1 = .inr 2 := by decide +kernel
theorem kd_2 : kd 2 = .inl (.int, 7) := by decide +kernel
theorem kd_3 : kd 3 = .inl (.int, 10) := by decide +kernel
theorem kd_4 : kd 4 = .inl (.int, 10) := by decide +kernel
theorem kd_5 : kd 5 = .inl (.int, 10) := by decide +kernel
theorem kd_6 : kd 6 = .inl (.int, 10) := by decide +kernel
theorem kd_7 : kd 7 = .inl (.int, 10) := by decide +kernel
theorem kd_8 : kd 8 = .inl (.int, 10) := by decide +kernel
theorem kd_9 : kd 9 = .inl (.int, 10) := by decide +kernel
theorem kd_10 : kd 10 = .inl (.int, 10) := by decide +kernel
theorem kd_11 : kd 11 = .inl (.int, 10) := by decide +kernel
theorem kd_12 : kd 12 = .inl (.long, 10) := by decide +kernel
theorem kd_13 : kd 13 = .inl (.long, 10) := by decide +kernel
theorem kd_14 : kd 14 = .inl (.long, 10) := by decide +kernel
theorem kd_15 : kd 15 = .inr 2 := by decide +kernel
theorem kd_16 : kd 16 = .inl (.int, 7) := by decide +kernel
theorem kd_17 : kd 17 = .inl (.int, 10) := by decide +kernel
theorem kd_18 : kd 18 = .inl (.int, 10) := by decide +kernel
theorem kd_19 : kd 19 = .inl (.int, 10) := by decide +kernel
theorem kd_20 : kd 20 = .inl (.int, 10) := by decide +kernel
theorem kd_21 : kd 21 = .inl (.int, 10) := by decide +kernel
theorem kd_22 : kd 22 = .inl (.int, 10) := by decide +kernel
theorem kd_23 : kd 23 = .inl (.int, 10) := by decide +kernel
theorem kd_24 : kd 24 = .inl (.int, 10) := by decide +kernel
theorem kd_25 : kd 25 = .inl (.int, 10) := by decide +kernel
theorem kd_26 : kd 26 = .inl (.long, 10) := by decide +kernel
theorem kd_27 : kd 27 = .inl (.long, 10) := by decide +kernel
theorem kd_28 : kd 28 = .inl (.long, 10) := by decide +kernel
theorem kd_29 : kd 29 = .inr 2 := by decide +kernel
theorem kd_30 : kd 30 = .inl (.int, 7) := by decide +kernel
theorem kd_31 : kd 31 = .inl (.int, 10) := by decide +kernel
theorem kd_32 : kd 32 = .inl (.int, 10) := by decide +kernel
theorem kd_33 : kd 33 = .inl (.int, 10) := by decide +kernel
theorem kd_34 : kd 34 = .inl (.int, 10) := by decide +kernel
theorem kd_35 : kd 35 = .inl (.int, 10) := by decide +kernel
theorem kd_36 : kd 36 = .inl (.int, 10) := by decide +kernel
theorem kd_37 : kd 37 = .inl (.int, 10) := by decide +kernel
theorem kd_38 : kd 38 = .inl (.int, 10) := by decide +kernel
theorem kd_39 : kd 39 = .inl (.int, 10) := by decide +kernel
theorem kd_40 : kd 40 = .inl (.long, 10) := by decide +kernel
theorem kd_41 : kd 41 = .inl (.long, 10) := by decide +kernel
theorem kd_42 : kd 42 = .inl (.long, 10) := by decide +kernel
theorem kd_43 : kd 43 = .inl (tNet, 9) := by decide +kernel
theorem kd_44 : kd 44 = .inr 3 := by decide +kernel
theorem kd_45 : kd 45 = .inl (.int, 10) := by decide +kernel
theorem kd_46 : kd 46 = .inl (.int, 10) := by decide +kernel
theorem kd_47 : kd 47 = .inl (.int, 10) := by decide +kernel
theorem kd_48 : kd 48 = .inl (.int, 10) := by decide +kernel
theorem kd_49 : kd 49 = .inl (.int, 10) := by decide +kernel
theorem kd_50 : kd 50 = .inl (.int, 10) := by decide +kernel
theorem kd_51 : kd 51 = .inl (.int, 10) := by decide +kernel
theorem kd_52 : kd 52 = .inl (.boolean, 10) := by decide +kernel
theorem kd_53 : kd 53 = .inr 4 := by decide +kernel
theorem kd_54 : kd 54 = .inl (.int, 10) := by decide +kernel
theorem kd_55 : kd 55 = .inl (.int, 10) := by decide +kernel
theorem kd_56 : kd 56 = .inl (.int, 10) := by decide +kernel
theorem kd_57 : kd 57 = .inl (.int, 10) := by decide +kernel
theorem kd_58 : kd 58 = .inl (.int, 10) := by decide +kernel
theorem kd_59 : kd 59 = .inl (.int, 10) := by decide +kernel
theorem kd_60 : kd 60 = .inl (.int, 10) := by decide +kernel
theorem kd_61 : kd 61 = .inl (.long, 10) := by decide +kernel
theorem kd_62 : kd 62 = .inl (.long, 10) := by decide +kernel
theorem kd_63 : kd 63 = .inl (.long, 10) := by decide +kernel
theorem kd_64 : kd 64 = .inl (.long, 10) := by decide +kernel
theorem kd_65 : kd 65 = .inl (.long, 10) := by decide +kernel
theorem kd_66 : kd 66 = .inr 4 := by decide +kernel
theorem kd_67 : kd 67 = .inl (.int, 10) := by decide +kernel
theorem kd_68 : kd 68 = .inl (.int, 10) := by decide +kernel
theorem kd_69 : kd 69 = .inl (.int, 10) := by decide +kernel
theorem kd_70 : kd 70 = .inl (.int, 10) := by decide +kernel
theorem kd_71 : kd 71 = .inl (.int, 10) := by decide +kernel
theorem kd_72 : kd 72 = .inl (.int, 10) := by decide +kernel
theorem kd_73 : kd 73 = .inl (.int, 10) := by decide +kernel
theorem kd_74 : kd 74 = .inl (.long, 10) := by decide +kernel
theorem kd_75 : kd 75 = .inl (.long, 10) := by decide +kernel
theorem kd_76 : kd 76 = .inl (.long, 10) := by decide +kernel
theorem kd_77 : kd 77 = .inl (.long, 10) := by decide +kernel
theorem kd_78 : kd 78 = .inl (.long, 10) := by decide +kernel
theorem kd_79 : kd 79 = .inr 5 := by decide +kernel
theorem kd_80 : kd 80 = .inl (.char, 60) := by decide +kernel
theorem kd_81 : kd 81 = .inl (.char, 20) := by decide +kernel
theorem kd_82 : kd 82 = .inl (.int, 80) := by decide +kernel
theorem kd_83 : kd 83 = .inr 2 := by decide +kernel
theorem kd_84 : kd 84 = .inl (.int, 7) := by decide +kernel
theorem kd_85 : kd 85 = .inl (.int, 10) := by decide +kernel
theorem kd_86 : kd 86 = .inl (.int, 10) := by decide +kernel
theorem kd_87 : kd 87 = .inl (.int, 10) := by decide +kernel
theorem kd_88 : kd 88 = .inl (.int, 10) := by decide +kernel
theorem kd_89 : kd 89 = .inl (.int, 10) := by decide +kernel
theorem kd_90 : kd 90 = .inl (.int, 10) := by decide +kernel
theorem kd_91 : kd 91 = .inl (.int, 10) := by decide +kernel
theorem kd_92 : kd 92 = .inl (.int, 10) := by decide +kernel
theorem kd_93 : kd 93 = .inl (.int, 10) := by decide +kernel
theorem kd_94 : kd 94 = .inl (.long, 10) := by decide +kernel
theorem kd_95 : kd 95 = .inl (.long, 10) := by decide +kernel
theorem kd_96 : kd 96 = .inl (.long, 10) := by decide +kernel
theorem kd_97 : kd 97 = .inr 2 := by decide +kernel
theorem kd_98 : kd 98 = .inl (.int, 7) := by decide +kernel
theorem kd_99 : kd 99 = .inl (.int, 10) := by decide +kernel
theorem kd_100 : kd 100 = .inl (.int, 10) := by decide +kernel
theorem kd_101 : kd 101 = .inl (.int, 10) := by decide +kernel
theorem kd_102 : kd 102 = .inl (.int, 10) := by decide +kernel
theorem kd_103 : kd 103 = .inl (.int, 10) := by decide +kernel
theorem kd_104 : kd 104 = .inl (.int, 10) := by decide +kernel
theorem kd_105 : kd 105 = .inl (.int, 10) := by decide +kernel
theorem kd_106 : kd 106 = .inl (.int, 10) := by decide +kernel
theorem kd_107 : kd 107 = .inl (.int, 10) := by decide +kernel
theorem kd_108 : kd 108 = .inl (.long, 10) := by decide +kernel
theorem kd_109 : kd 109 = .inl (.long, 10) := by decide +kernel
theorem kd_110 : kd 110 = .inl (.long, 10) := by decide +kernel
theorem kd_111 : kd 111 = .inr 2 := by decide +kernel
theorem kd_112 : kd 112 = .inl (.int, 7) := by decide +kernel
theorem kd_113 : kd 113 = .inl (.int, 10) := by decide +kernel
theorem kd_114 : kd 114 = .inl (.int, 10) := by decide +kernel
theorem kd_115 : kd 115 = .inl (.int, 10) := by decide +kernel
theorem kd_116 : kd 116 = .inl (.int, 10) := by decide +kernel
theorem kd_117 : kd 117 = .inl (.int, 10) := by decide +kernel
theorem kd_118 : kd 118 = .inl (.int, 10) := by decide +kernel
theorem kd_119 : kd 119 = .inl (.int, 10) := by decide +kernel
theorem kd_120 : kd 120 = .inl (.int, 10) := by decide +kernel
theorem kd_121 : kd 121 = .inl (.int, 10) := by decide +kernel
theorem kd_122 : kd 122 = .inl (.long, 10) := by decide +kernel
theorem kd_123 : kd 123 = .inl (.long, 10) := by decide +kernel
theorem kd_124 : kd 124 = .inl (.long, 10) := by decide +kernel
theorem kd_125 : kd 125 = .inr 2 := by decide +kernel
theorem kd_126 : kd 126 = .inl (.int, 7) := by decide +kernel
theorem kd_127 : kd 127 = .inl (.int, 10) := by decide +kernel
theorem kd_128 : kd 128 = .inl (.int, 10) := by decide +kernel
theorem kd_129 : kd 129 = .inl (.int, 10) := by decide +kernel
theorem kd_130 : kd 130 = .inl (.int, 10) := by decide +kernel
theorem kd_131 : kd 131 = .inl (.int, 10) := by decide +kernel
theorem kd_132 : kd 132 = .inl (.int, 10) := by decide +kernel
theorem kd_133 : kd 133 = .inl (.int, 10) := by decide +kernel
theorem kd_134 : kd 134 = .inl (.int, 10) := by decide +kernel
theorem kd_135 : kd 135 = .inl (.int, 10) := by decide +kernel
theorem kd_136 : kd 136 = .inl (.long, 10) := by decide +kernel
theorem kd_137 : kd 137 = .inl (.long, 10) := by decide +kernel
theorem kd_138 : kd 138 = .inl (.long, 10) := by decide +kernel
theorem kd_139 : kd 139 = .inr 2 := by decide +kernel
theorem kd_140 : kd 140 = .inl (.int, 7) := by decide +kernel
theorem kd_141 : kd 141 = .inl (.int, 10) := by decide +kernel
theorem kd_142 : kd 142 = .inl (.int, 10) := by decide +kernel
theorem kd_143 : kd 143 = .inl (.int, 10) := by decide +kernel
theorem kd_144 : kd 144 = .inl (.int, 10) := by decide +kernel
theorem kd_145 : kd 145 = .inl (.int, 10) := by decide +kernel
theorem kd_146 : kd 146 = .inl (.int, 10) := by decide +kernel
theorem kd_147 : kd 147 = .inl (.int, 10) := by decide +kernel
theorem kd_148 : kd 148 = .inl (.int, 10) := by decide +kernel
theorem kd_149 : kd 149 = .inl (.int, 10) := by decide +kernel
theorem kd_150 : kd 150 = .inl (.long, 10) := by decide +kernel
theorem kd_151 : kd 151 = .inl (.long, 10) := by decide +kernel
theorem kd_152 : kd 152 = .inl (.long, 10) := by decide +kernel
theorem kd_153 : kd 153 = .inr 2 := by decide +kernel
theorem kd_154 : kd 154 = .inl (.int, 7) := by decide +kernel
theorem kd_155 : kd 155 = .inl (.int, 10) := by decide +kernel
theorem kd_156 : kd 156 = .inl (.int, 10) := by decide +kernel
theorem kd_157 : kd 157 = .inl (.int, 10) := by decide +kernel
theorem kd_158 : kd 158 = .inl (.int, 10) := by decide +kernel
theorem kd_159 : kd 159 = .inl (.int, 10) := by decide +kernel
theorem kd_160 : kd 160 = .inl (.int, 10) := by decide +kernel
theorem kd_161 : kd 161 = .inl (.int, 10) := by decide +kernel
theorem kd_162 : kd 162 = .inl (.int, 10) := by decide +kernel
theorem kd_163 : kd 163 = .inl (.int, 10) := by decide +kernel
theorem kd_164 : kd 164 = .inl (.long, 10) := by decide +kernel
theorem kd_165 : kd 165 = .inl (.long, 10) := by decide +kernel
theorem kd_166 : kd 166 = .inl (.long, 10) := by decide +kernel
theorem kd_167 : kd 167 = .inr 2 := by decide +kernel
theorem kd_168 : kd 168 = .inl (.int, 7) := by decide +kernel
theorem kd_169 : kd 169 = .inl (.int, 10) := by decide +kernel
theorem kd_170 : kd 170 = .inl (.int, 10) := by decide +kernel
theorem kd_171 : kd 171 = .inl (.int, 10) := by decide +kernel
theorem kd_172 : kd 172 = .inl (.int, 10) := by decide +kernel
theorem kd_173 : kd 173 = .inl (.int, 10) := by decide +kernel
theorem kd_174 : kd 174 = .inl (.int, 10) := by decide +kernel
theorem kd_175 : kd 175 = .inl (.int, 10) := by decide +kernel
theorem kd_176 : kd 176 = .inl (.int, 10) := by decide +kernel
theorem kd_177 : kd 177 = .inl (.int, 10) := by decide +kernel
theorem kd_178 : kd 178 = .inl (.long, 10) := by decide +kernel
theorem kd_179 : kd 179 = .inl (.long, 10) := by decide +kernel
theorem kd_180 : kd 180 = .inl (.long, 10) := by decide +kernel
theorem kd_181 : kd 181 = .inr 2 := by decide +kernel
theorem kd_182 : kd 182 = .inl (.int, 7) := by decide +kernel
theorem kd_183 : kd 183 = .inl (.int, 10) := by decide +kernel
theorem kd_184 : kd 184 = .inl (.int, 10) := by decide +kernel
theorem kd_185 : kd 185 = .inl (.int, 10) := by decide +kernel
theorem kd_186 : kd 186 = .inl (.int, 10) := by decide +kernel
theorem kd_187 : kd 187 = .inl (.int, 10) := by decide +kernel
theorem kd_188 : kd 188 = .inl (.int, 10) := by decide +kernel
theorem kd_189 : kd 189 = .inl (.int, 10) := by decide +kernel
theorem kd_190 : kd 190 = .inl (.int, 10) := by decide +kernel
theorem kd_191 : kd 191 = .inl (.int, 10) := by decide +kernel
theorem kd_192 : kd 192 = .inl (.long, 10) := by decide +kernel
theorem kd_193 : kd 193 = .inl (.long, 10) := by decide +kernel
theorem kd_194 : kd 194 = .inl (.long, 10) := by decide +kernel
theorem kd_195 : kd 195 = .inr 2 := by decide +kernel
theorem kd_196 : kd 196 = .inl (.int, 7) := by decide +kernel
theorem kd_197 : kd 197 = .inl (.int, 10) := by decide +kernel
theorem kd_198 : kd 198 = .inl (.int, 10) := by decide +kernel
theorem kd_199 : kd 199 = .inl (.int, 10) := by decide +kernel
theorem kd_200 : kd 200 = .inl (.int, 10) := by decide +kernel
theorem kd_201 : kd 201 = .inl (.int, 10) := by decide +kernel
theorem kd_202 : kd 202 = .inl (.int, 10) := by decide +kernel
theorem kd_203 : kd 203 = .inl (.int, 10) := by decide +kernel
theorem kd_204 : kd 204 = .inl (.int, 10) := by decide +kernel
theorem kd_205 : kd 205 = .inl (.int, 10) := by decide +kernel
theorem kd_206 : kd 206 = .inl (.long, 10) := by decide +kernel
theorem kd_207 : kd 207 = .inl (.long, 10) := by decide +kernel
theorem kd_208 : kd 208 = .inl (.long, 10) := by decide +kernel
theorem kd_209 : kd 209 = .inr 7 := by decide +kernel
theorem kd_210 : kd 210 = .inl (.int, 108) := by decide +kernel
theorem kd_211 : kd 211 = .inl (.long, 34) := by decide +kernel
theorem kd_212 : kd 212 = .inl (.int, 864) := by decide +kernel
theorem kd_213 : kd 213 = .inl (.long, 272) := by decide +kernel
theorem kd_214 : kd 214 = .inl (.int, 108) := by decide +kernel
theorem kd_215 : kd 215 = .inl (.long, 34) := by decide +kernel
theorem kd_216 : kd 216 = .inl (.int, 108) := by decide +kernel
theorem kd_217 : kd 217 = .inl (.long, 34) := by decide +kernel
theorem kd_218 : kd 218 = .inl (.int, 60) := by decide +kernel
theorem kd_219 : kd 219 = .inl (.int, 10) := by decide +kernel
theorem kd_220 : kd 220 = .inl (.int, 10) := by decide +kernel
theorem kd_221 : kd 221 = .inl (.int, 10) := by decide +kernel
theorem kd_222 : kd 222 = .inl (.boolean, 10) := by decide +kernel
theorem kd_223 : kd 223 = .inl (.int, 10) := by decide +kernel
theorem kd_224 : kd 224 = .inl (.int, 10) := by decide +kernel
theorem kd_225 : kd 225 = .inl (.int, 10) := by decide +kernel
theorem kd_226 : kd 226 = .inl (.int, 10) := by decide +kernel
theorem kd_227 : kd 227 = .inl (.long, 10) := by decide +kernel
theorem kd_228 : kd 228 = .inl (.int, 10) := by decide +kernel
theorem kd_229 : kd 229 = .inl (.int, 10) := by decide +kernel
theorem kd_230 : kd 230 = .inl (.int, 10) := by decide +kernel
theorem kd_231 : kd 231 = .inl (.long, 10) := by decide +kernel
theorem kd_232 : kd 232 = .inl (.boolean, 10) := by decide +kernel
theorem kd_233 : kd 233 = .inl (.long, 1) := by decide +kernel
theorem kd_234 : kd 234 = .inl (.double, 1) := by decide +kernel
theorem r_i2d {x : Ctx} {own : String} {cc : ByteArray} {nL n pc : Nat} {L : List (Nat × Value)} {S : List Value} {σ : Mem} (C : Cx x own cc nL) (pc' : Nat) {a : Int32} (d : decode cc pc = .ok (.i2d, 1)) (hp : pc + 1 = pc') (k : Ws x n pc' L (.double (FP.i2d a) :: S) σ) : Ws x n pc L (.int a :: S) σ := by
  obtain ⟨p, l, e, R, s, m, args, below, meth, c, g, QQ, c0, s0, nL'⟩ := x
  obtain ⟨hx, hb, hml, hown, hts, hKE, hlk, htr, rfl⟩ := C
  subst hp
  intro H locs ls hP hS hl
  exact lv_i2d hx hb d (k H locs ls hP hS hl)
/-- a network, a state of the pool -/
def NetA (a : Nat) : Prop := ∀ k, k < 14 → kd (a + k) = kNet.getD k (.inr 99)
def StaA (t : Nat) : Prop := ∀ k, k < 13 → kd (t + k) = kState.getD k (.inr 99)
theorem net0 {a : Nat} (h : NetA a) : kd a = .inr 2 := h 0 (by decide)
theorem net1 {a : Nat} (h : NetA a) : kd (a + 1) = .inl (.int, 7) := h 1 (by decide)
theorem net2 {a : Nat} (h : NetA a) : kd (a + 2) = .inl (.int, 10) := h 2 (by decide)
theorem net3 {a : Nat} (h : NetA a) : kd (a + 3) = .inl (.int, 10) := h 3 (by decide)
theorem net4 {a : Nat} (h : NetA a) : kd (a + 4) = .inl (.int, 10) := h 4 (by decide)
theorem net5 {a : Nat} (h : NetA a) : kd (a + 5) = .inl (.int, 10) := h 5 (by decide)
theorem net6 {a : Nat} (h : NetA a) : kd (a + 6) = .inl (.int, 10) := h 6 (by decide)
theorem net7 {a : Nat} (h : NetA a) : kd (a + 7) = .inl (.int, 10) := h 7 (by decide)
theorem net8 {a : Nat} (h : NetA a) : kd (a + 8) = .inl (.int, 10) := h 8 (by decide)
theorem net9 {a : Nat} (h : NetA a) : kd (a + 9) = .inl (.int, 10) := h 9 (by decide)
theorem net10 {a : Nat} (h : NetA a) : kd (a + 10) = .inl (.int, 10) := h 10 (by decide)
theorem net11 {a : Nat} (h : NetA a) : kd (a + 11) = .inl (.long, 10) := h 11 (by decide)
theorem net12 {a : Nat} (h : NetA a) : kd (a + 12) = .inl (.long, 10) := h 12 (by decide)
theorem net13 {a : Nat} (h : NetA a) : kd (a + 13) = .inl (.long, 10) := h 13 (by decide)
theorem sta0 {t : Nat} (h : StaA t) : kd t = .inr 4 := h 0 (by decide)
theorem sta1 {t : Nat} (h : StaA t) : kd (t + 1) = .inl (.int, 10) := h 1 (by decide)
theorem sta2 {t : Nat} (h : StaA t) : kd (t + 2) = .inl (.int, 10) := h 2 (by decide)
theorem sta3 {t : Nat} (h : StaA t) : kd (t + 3) = .inl (.int, 10) := h 3 (by decide)
theorem sta4 {t : Nat} (h : StaA t) : kd (t + 4) = .inl (.int, 10) := h 4 (by decide)
theorem sta5 {t : Nat} (h : StaA t) : kd (t + 5) = .inl (.int, 10) := h 5 (by decide)
theorem sta6 {t : Nat} (h : StaA t) : kd (t + 6) = .inl (.int, 10) := h 6 (by decide)
theorem sta7 {t : Nat} (h : StaA t) : kd (t + 7) = .inl (.int, 10) := h 7 (by decide)
theorem sta8 {t : Nat} (h : StaA t) : kd (t + 8) = .inl (.long, 10) := h 8 (by decide)
theorem sta9 {t : Nat} (h : StaA t) : kd (t + 9) = .inl (.long, 10) := h 9 (by decide)
theorem sta10 {t : Nat} (h : StaA t) : kd (t + 10) = .inl (.long, 10) := h 10 (by decide)
theorem sta11 {t : Nat} (h : StaA t) : kd (t + 11) = .inl (.long, 10) := h 11 (by decide)
theorem sta12 {t : Nat} (h : StaA t) : kd (t + 12) = .inl (.long, 10) := h 12 (by decide)
theorem netA_1 : NetA 1 := by unfold NetA; decide +kernel
theorem netA_15 : NetA 15 := by unfold NetA; decide +kernel
theorem netA_29 : NetA 29 := by unfold NetA; decide +kernel
theorem staA_53 : StaA 53 := by unfold StaA; decide +kernel
theorem staA_66 : StaA 66 := by unfold StaA; decide +kernel
theorem earl_netN : ∀ j, j < 9 → NetA (83 + 14 * j) := by unfold NetA; decide +kernel
theorem earl_net {i : Int32} (h : vp_in i 9) : NetA (83 + 14 * i.toNatClampNeg) := earl_netN _ (Nat.not_le.mp fun q => h (Or.inr q))
theorem Ws_pick {x : Ctx} {n pc : Nat} {L L' : List (Nat × Value)} {S : List Value} {σ : Mem} (ks : List Nat) (hL : ks.filterMap (fun k => L[k]?) = L') (k : Ws x n pc L' S σ) : Ws x n pc L S σ := by
  refine Ws_sub (fun q hq => ?_) k
  rw [← hL] at hq
  obtain ⟨j, -, hj⟩ := List.mem_filterMap.mp hq
  exact List.mem_of_getElem? hj
theorem Px.fr {x : Ctx} {d κ : Nat} {X : String → Mem → Prop} (h : Px x d κ X) (h1 : 1 ≤ d) (h2 : 60 ≤ 50 * d + 60) : ∀ p l e R s m args below meth c g QQ c0 s0 nL, x = (p, l, e, R, s, m, args, below, meth, c, g, QQ, c0, s0, nL) → 1 ≤ R.frames ∧ 60 ≤ R.locals := by
  intro p l e R s m args below meth c g QQ c0 s0 nL hx
  subst hx
  obtain ⟨rfl, -⟩ := h
  exact ⟨h1, h2⟩
theorem tsw_out (N : Nat) {v : Int32} (hN : N < 2 ^ 31) (h : ∀ k : Nat, k < N → ¬ v = nI k) : v.toInt < 0 ∨ ((N : Int) - 1) < v.toInt := by
  rcases Int.lt_or_le v.toInt 0 with h1 | h1
  · exact Or.inl h1
  · refine Or.inr ?_
    apply Int.not_le.mp
    intro h2
    refine h v.toInt.toNat (by omega) ?_
    rw [← Int32.toInt_inj, nI_toInt (by omega)]
    omega
theorem nb_sub {ws : List Cond} (h : ∀ w ∈ ws, w ∈ lw_tbl) (hg : ws.all nbWord = true) : ∀ w ∈ ws, w ∈ NB := fun w hw => List.mem_filter.mpr ⟨h w hw, List.all_eq_true.mp hg w hw⟩
theorem thN : ∀ n ∈ ["java/lang/RuntimeException", "java/lang/Exception"], Bundle.fit n = true := by decide +kernel
theorem thIOO : Bundle.fit "java/lang/IndexOutOfBoundsException" = true ∧ Cond.initialized "java/lang/IndexOutOfBoundsException" ∈ TB ∧ (∀ w ∈ (vx_atS "HeatNetwork" 78 "java/lang/IndexOutOfBoundsException" ["java/lang/RuntimeException", "java/lang/Exception"]).filter goodWord, w ∈ TB) ∧ (∀ w ∈ (vx_atS "HeatNetwork" 78 "java/lang/IndexOutOfBoundsException" ["java/lang/RuntimeException", "java/lang/Exception"]).filter (fun w => !goodWord w), w ∈ NB) ∧ (∀ w ∈ Cond.classLink "HeatNetwork" 74 "java/lang/IndexOutOfBoundsException" :: Cond.initialized "java/lang/IndexOutOfBoundsException" :: vx_atS "HeatNetwork" 78 "java/lang/IndexOutOfBoundsException" ["java/lang/RuntimeException", "java/lang/Exception"], vx_ot w = true) :=
  ⟨by decide +kernel, wd_99, tb_sub (by decide +kernel) (by decide +kernel), nb_sub (by decide +kernel) (by decide +kernel), by decide +kernel⟩
theorem thIAE : Bundle.fit "java/lang/IllegalArgumentException" = true ∧ Cond.initialized "java/lang/IllegalArgumentException" ∈ TB ∧ (∀ w ∈ (vx_atS "HeatNetwork" 85 "java/lang/IllegalArgumentException" ["java/lang/RuntimeException", "java/lang/Exception"]).filter goodWord, w ∈ TB) ∧ (∀ w ∈ (vx_atS "HeatNetwork" 85 "java/lang/IllegalArgumentException" ["java/lang/RuntimeException", "java/lang/Exception"]).filter (fun w => !goodWord w), w ∈ NB) ∧ (∀ w ∈ Cond.classLink "HeatNetwork" 81 "java/lang/IllegalArgumentException" :: Cond.initialized "java/lang/IllegalArgumentException" :: vx_atS "HeatNetwork" 85 "java/lang/IllegalArgumentException" ["java/lang/RuntimeException", "java/lang/Exception"], vx_ot w = true) :=
  ⟨by decide +kernel, wd_102, tb_sub (by decide +kernel) (by decide +kernel), nb_sub (by decide +kernel) (by decide +kernel), by decide +kernel⟩
theorem thUOE : Bundle.fit "java/lang/UnsupportedOperationException" = true ∧ Cond.initialized "java/lang/UnsupportedOperationException" ∈ TB ∧ (∀ w ∈ (vx_atS "HeatNetwork" 380 "java/lang/UnsupportedOperationException" ["java/lang/RuntimeException", "java/lang/Exception"]).filter goodWord, w ∈ TB) ∧ (∀ w ∈ (vx_atS "HeatNetwork" 380 "java/lang/UnsupportedOperationException" ["java/lang/RuntimeException", "java/lang/Exception"]).filter (fun w => !goodWord w), w ∈ NB) ∧ (∀ w ∈ Cond.classLink "HeatNetwork" 376 "java/lang/UnsupportedOperationException" :: Cond.initialized "java/lang/UnsupportedOperationException" :: vx_atS "HeatNetwork" 380 "java/lang/UnsupportedOperationException" ["java/lang/RuntimeException", "java/lang/Exception"], vx_ot w = true) :=
  ⟨by decide +kernel, wd_106, tb_sub (by decide +kernel) (by decide +kernel), nb_sub (by decide +kernel) (by decide +kernel), by decide +kernel⟩
theorem thISE : Bundle.fit "java/lang/IllegalStateException" = true ∧ Cond.initialized "java/lang/IllegalStateException" ∈ TB ∧ (∀ w ∈ (vx_atS "HeatNetwork" 174 "java/lang/IllegalStateException" ["java/lang/RuntimeException", "java/lang/Exception"]).filter goodWord, w ∈ TB) ∧ (∀ w ∈ (vx_atS "HeatNetwork" 174 "java/lang/IllegalStateException" ["java/lang/RuntimeException", "java/lang/Exception"]).filter (fun w => !goodWord w), w ∈ NB) ∧ (∀ w ∈ Cond.classLink "HeatNetwork" 170 "java/lang/IllegalStateException" :: Cond.initialized "java/lang/IllegalStateException" :: vx_atS "HeatNetwork" 174 "java/lang/IllegalStateException" ["java/lang/RuntimeException", "java/lang/Exception"], vx_ot w = true) :=
  ⟨by decide +kernel, wd_109, tb_sub (by decide +kernel) (by decide +kernel), nb_sub (by decide +kernel) (by decide +kernel), by decide +kernel⟩
theorem thARI : Bundle.fit "java/lang/ArithmeticException" = true ∧ Cond.initialized "java/lang/ArithmeticException" ∈ TB ∧ (∀ w ∈ (vx_atS "HeatNetwork" 350 "java/lang/ArithmeticException" ["java/lang/RuntimeException", "java/lang/Exception"]).filter goodWord, w ∈ TB) ∧ (∀ w ∈ (vx_atS "HeatNetwork" 350 "java/lang/ArithmeticException" ["java/lang/RuntimeException", "java/lang/Exception"]).filter (fun w => !goodWord w), w ∈ NB) ∧ (∀ w ∈ Cond.classLink "HeatNetwork" 346 "java/lang/ArithmeticException" :: Cond.initialized "java/lang/ArithmeticException" :: vx_atS "HeatNetwork" 350 "java/lang/ArithmeticException" ["java/lang/RuntimeException", "java/lang/Exception"], vx_ot w = true) :=
  ⟨by decide +kernel, wd_110, tb_sub (by decide +kernel) (by decide +kernel), nb_sub (by decide +kernel) (by decide +kernel), by decide +kernel⟩
