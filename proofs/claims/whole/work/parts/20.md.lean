abbrev rm_X10_plays : Room := { frames := 2, cells := 0, slots := 0, locals := 47 }
theorem dX10_plays_0 : decode cX10_plays 0 = .ok (.aload_n 0, 1) := by decide +kernel
theorem dX10_plays_1 : decode cX10_plays 1 = .ok (.aload_n 1, 1) := by decide +kernel
theorem dX10_plays_2 : decode cX10_plays 2 = .ok (.invokevirtual 124, 3) := by decide +kernel
theorem dX10_plays_5 : decode cX10_plays 5 = .ok (.lstore_n 3, 1) := by decide +kernel
theorem dX10_plays_6 : decode cX10_plays 6 = .ok (.aload_n 1, 1) := by decide +kernel
theorem dX10_plays_7 : decode cX10_plays 7 = .ok (.iconst 2, 1) := by decide +kernel
theorem dX10_plays_8 : decode cX10_plays 8 = .ok (.laload, 1) := by decide +kernel
theorem dX10_plays_9 : decode cX10_plays 9 = .ok (.lconst 1, 1) := by decide +kernel
theorem dX10_plays_10 : decode cX10_plays 10 = .ok (.lcmp, 1) := by decide +kernel
theorem dX10_plays_11 : decode cX10_plays 11 = .ok (.ifCond .eq 13, 3) := by decide +kernel
theorem dX10_plays_14 : decode cX10_plays 14 = .ok (.aload_n 1, 1) := by decide +kernel
theorem dX10_plays_15 : decode cX10_plays 15 = .ok (.iconst 2, 1) := by decide +kernel
theorem dX10_plays_16 : decode cX10_plays 16 = .ok (.laload, 1) := by decide +kernel
theorem dX10_plays_17 : decode cX10_plays 17 = .ok (.ldc2_w 78, 3) := by decide +kernel
theorem dX10_plays_20 : decode cX10_plays 20 = .ok (.lcmp, 1) := by decide +kernel
theorem dX10_plays_21 : decode cX10_plays 21 = .ok (.ifCond .ne 52, 3) := by decide +kernel
theorem dX10_plays_24 : decode cX10_plays 24 = .ok (.aload_n 1, 1) := by decide +kernel
theorem dX10_plays_25 : decode cX10_plays 25 = .ok (.iconst 2, 1) := by decide +kernel
theorem dX10_plays_26 : decode cX10_plays 26 = .ok (.laload, 1) := by decide +kernel
theorem dX10_plays_27 : decode cX10_plays 27 = .ok (.lconst 1, 1) := by decide +kernel
theorem dX10_plays_28 : decode cX10_plays 28 = .ok (.lcmp, 1) := by decide +kernel
theorem dX10_plays_29 : decode cX10_plays 29 = .ok (.ifCond .ne 8, 3) := by decide +kernel
theorem dX10_plays_32 : decode cX10_plays 32 = .ok (.iload_n 2, 1) := by decide +kernel
theorem dX10_plays_33 : decode cX10_plays 33 = .ok (.i2l, 1) := by decide +kernel
theorem dX10_plays_34 : decode cX10_plays 34 = .ok (.goto 10, 3) := by decide +kernel
theorem dX10_plays_37 : decode cX10_plays 37 = .ok (.aload_n 0, 1) := by decide +kernel
theorem dX10_plays_38 : decode cX10_plays 38 = .ok (.getfield 7, 3) := by decide +kernel
theorem dX10_plays_41 : decode cX10_plays 41 = .ok (.iconst 4, 1) := by decide +kernel
theorem dX10_plays_42 : decode cX10_plays 42 = .ok (.iaload, 1) := by decide +kernel
theorem dX10_plays_43 : decode cX10_plays 43 = .ok (.i2l, 1) := by decide +kernel
theorem dX10_plays_44 : decode cX10_plays 44 = .ok (.lstore 5, 2) := by decide +kernel
theorem dX10_plays_46 : decode cX10_plays 46 = .ok (.aload_n 1, 1) := by decide +kernel
theorem dX10_plays_47 : decode cX10_plays 47 = .ok (.iconst 2, 1) := by decide +kernel
theorem dX10_plays_48 : decode cX10_plays 48 = .ok (.lload_n 3, 1) := by decide +kernel
theorem dX10_plays_49 : decode cX10_plays 49 = .ok (.lload 5, 2) := by decide +kernel
theorem dX10_plays_51 : decode cX10_plays 51 = .ok (.lcmp, 1) := by decide +kernel
theorem dX10_plays_52 : decode cX10_plays 52 = .ok (.ifCond .ge 11, 3) := by decide +kernel
theorem dX10_plays_55 : decode cX10_plays 55 = .ok (.aload_n 0, 1) := by decide +kernel
theorem dX10_plays_56 : decode cX10_plays 56 = .ok (.aload_n 1, 1) := by decide +kernel
theorem dX10_plays_57 : decode cX10_plays 57 = .ok (.invokevirtual 127, 3) := by decide +kernel
theorem dX10_plays_60 : decode cX10_plays 60 = .ok (.ifCond .eq 9, 3) := by decide +kernel
theorem dX10_plays_63 : decode cX10_plays 63 = .ok (.ldc2_w 131, 3) := by decide +kernel
theorem dX10_plays_66 : decode cX10_plays 66 = .ok (.goto 6, 3) := by decide +kernel
theorem dX10_plays_69 : decode cX10_plays 69 = .ok (.aload_n 1, 1) := by decide +kernel
theorem dX10_plays_70 : decode cX10_plays 70 = .ok (.iconst 2, 1) := by decide +kernel
theorem dX10_plays_71 : decode cX10_plays 71 = .ok (.laload, 1) := by decide +kernel
theorem dX10_plays_72 : decode cX10_plays 72 = .ok (.lastore, 1) := by decide +kernel
theorem dX10_plays_73 : decode cX10_plays 73 = .ok (.aload_n 1, 1) := by decide +kernel
theorem dX10_plays_74 : decode cX10_plays 74 = .ok (.iconst 2, 1) := by decide +kernel
theorem dX10_plays_75 : decode cX10_plays 75 = .ok (.laload, 1) := by decide +kernel
theorem dX10_plays_76 : decode cX10_plays 76 = .ok (.ldc2_w 131, 3) := by decide +kernel
theorem dX10_plays_79 : decode cX10_plays 79 = .ok (.lcmp, 1) := by decide +kernel
theorem dX10_plays_80 : decode cX10_plays 80 = .ok (.ifCond .eq 4, 3) := by decide +kernel
theorem dX10_plays_83 : decode cX10_plays 83 = .ok (.return_, 1) := by decide +kernel
theorem dX10_plays_84 : decode cX10_plays 84 = .ok (.lload_n 3, 1) := by decide +kernel
theorem dX10_plays_85 : decode cX10_plays 85 = .ok (.lconst 0, 1) := by decide +kernel
theorem dX10_plays_86 : decode cX10_plays 86 = .ok (.lcmp, 1) := by decide +kernel
theorem dX10_plays_87 : decode cX10_plays 87 = .ok (.ifCond .ne 67, 3) := by decide +kernel
theorem dX10_plays_90 : decode cX10_plays 90 = .ok (.aload_n 1, 1) := by decide +kernel
theorem dX10_plays_91 : decode cX10_plays 91 = .ok (.iconst 1, 1) := by decide +kernel
theorem dX10_plays_92 : decode cX10_plays 92 = .ok (.laload, 1) := by decide +kernel
theorem dX10_plays_93 : decode cX10_plays 93 = .ok (.aload_n 0, 1) := by decide +kernel
theorem dX10_plays_94 : decode cX10_plays 94 = .ok (.getfield 7, 3) := by decide +kernel
theorem dX10_plays_97 : decode cX10_plays 97 = .ok (.iconst 1, 1) := by decide +kernel
theorem dX10_plays_98 : decode cX10_plays 98 = .ok (.iaload, 1) := by decide +kernel
theorem dX10_plays_99 : decode cX10_plays 99 = .ok (.i2l, 1) := by decide +kernel
theorem dX10_plays_100 : decode cX10_plays 100 = .ok (.aload_n 0, 1) := by decide +kernel
theorem dX10_plays_101 : decode cX10_plays 101 = .ok (.getfield 7, 3) := by decide +kernel
theorem dX10_plays_104 : decode cX10_plays 104 = .ok (.iconst 0, 1) := by decide +kernel
theorem dX10_plays_105 : decode cX10_plays 105 = .ok (.iaload, 1) := by decide +kernel
theorem dX10_plays_106 : decode cX10_plays 106 = .ok (.i2l, 1) := by decide +kernel
theorem dX10_plays_107 : decode cX10_plays 107 = .ok (.lmul, 1) := by decide +kernel
theorem dX10_plays_108 : decode cX10_plays 108 = .ok (.lcmp, 1) := by decide +kernel
theorem dX10_plays_109 : decode cX10_plays 109 = .ok (.ifCond .ne 7, 3) := by decide +kernel
theorem dX10_plays_112 : decode cX10_plays 112 = .ok (.iconst 1, 1) := by decide +kernel
theorem dX10_plays_113 : decode cX10_plays 113 = .ok (.goto 4, 3) := by decide +kernel
theorem dX10_plays_116 : decode cX10_plays 116 = .ok (.iconst 0, 1) := by decide +kernel
theorem dX10_plays_117 : decode cX10_plays 117 = .ok (.istore 5, 2) := by decide +kernel
theorem dX10_plays_119 : decode cX10_plays 119 = .ok (.aload_n 1, 1) := by decide +kernel
theorem dX10_plays_120 : decode cX10_plays 120 = .ok (.iconst 2, 1) := by decide +kernel
theorem dX10_plays_121 : decode cX10_plays 121 = .ok (.iload 5, 2) := by decide +kernel
theorem dX10_plays_123 : decode cX10_plays 123 = .ok (.ifCond .eq 9, 3) := by decide +kernel
theorem dX10_plays_126 : decode cX10_plays 126 = .ok (.ldc2_w 133, 3) := by decide +kernel
theorem dX10_plays_129 : decode cX10_plays 129 = .ok (.goto 6, 3) := by decide +kernel
theorem dX10_plays_132 : decode cX10_plays 132 = .ok (.ldc2_w 78, 3) := by decide +kernel
theorem dX10_plays_135 : decode cX10_plays 135 = .ok (.lastore, 1) := by decide +kernel
theorem dX10_plays_136 : decode cX10_plays 136 = .ok (.aload_n 1, 1) := by decide +kernel
theorem dX10_plays_137 : decode cX10_plays 137 = .ok (.bipush 18, 2) := by decide +kernel
theorem dX10_plays_139 : decode cX10_plays 139 = .ok (.dup2, 1) := by decide +kernel
theorem dX10_plays_140 : decode cX10_plays 140 = .ok (.laload, 1) := by decide +kernel
theorem dX10_plays_141 : decode cX10_plays 141 = .ok (.iload 5, 2) := by decide +kernel
theorem dX10_plays_143 : decode cX10_plays 143 = .ok (.ifCond .eq 7, 3) := by decide +kernel
theorem dX10_plays_146 : decode cX10_plays 146 = .ok (.lconst 0, 1) := by decide +kernel
theorem dX10_plays_147 : decode cX10_plays 147 = .ok (.goto 4, 3) := by decide +kernel
theorem dX10_plays_150 : decode cX10_plays 150 = .ok (.lconst 1, 1) := by decide +kernel
theorem dX10_plays_151 : decode cX10_plays 151 = .ok (.ladd, 1) := by decide +kernel
theorem dX10_plays_152 : decode cX10_plays 152 = .ok (.lastore, 1) := by decide +kernel
theorem dX10_plays_153 : decode cX10_plays 153 = .ok (.return_, 1) := by decide +kernel
theorem dX10_plays_154 : decode cX10_plays 154 = .ok (.aload_n 0, 1) := by decide +kernel
theorem dX10_plays_155 : decode cX10_plays 155 = .ok (.getfield 7, 3) := by decide +kernel
theorem dX10_plays_158 : decode cX10_plays 158 = .ok (.bipush 13, 2) := by decide +kernel
theorem dX10_plays_160 : decode cX10_plays 160 = .ok (.iaload, 1) := by decide +kernel
theorem dX10_plays_161 : decode cX10_plays 161 = .ok (.ifCond .le 59, 3) := by decide +kernel
theorem dX10_plays_164 : decode cX10_plays 164 = .ok (.aload_n 1, 1) := by decide +kernel
theorem dX10_plays_165 : decode cX10_plays 165 = .ok (.iconst 0, 1) := by decide +kernel
theorem dX10_plays_166 : decode cX10_plays 166 = .ok (.laload, 1) := by decide +kernel
theorem dX10_plays_167 : decode cX10_plays 167 = .ok (.aload_n 0, 1) := by decide +kernel
theorem dX10_plays_168 : decode cX10_plays 168 = .ok (.getfield 7, 3) := by decide +kernel
theorem dX10_plays_171 : decode cX10_plays 171 = .ok (.bipush 13, 2) := by decide +kernel
theorem dX10_plays_173 : decode cX10_plays 173 = .ok (.iaload, 1) := by decide +kernel
theorem dX10_plays_174 : decode cX10_plays 174 = .ok (.i2l, 1) := by decide +kernel
theorem dX10_plays_175 : decode cX10_plays 175 = .ok (.ladd, 1) := by decide +kernel
theorem dX10_plays_176 : decode cX10_plays 176 = .ok (.aload_n 1, 1) := by decide +kernel
theorem dX10_plays_177 : decode cX10_plays 177 = .ok (.iconst 1, 1) := by decide +kernel
theorem dX10_plays_178 : decode cX10_plays 178 = .ok (.laload, 1) := by decide +kernel
theorem dX10_plays_179 : decode cX10_plays 179 = .ok (.lsub, 1) := by decide +kernel
theorem dX10_plays_180 : decode cX10_plays 180 = .ok (.aload_n 0, 1) := by decide +kernel
theorem dX10_plays_181 : decode cX10_plays 181 = .ok (.getfield 7, 3) := by decide +kernel
theorem dX10_plays_184 : decode cX10_plays 184 = .ok (.bipush 14, 2) := by decide +kernel
theorem dX10_plays_186 : decode cX10_plays 186 = .ok (.iaload, 1) := by decide +kernel
theorem dX10_plays_187 : decode cX10_plays 187 = .ok (.i2l, 1) := by decide +kernel
theorem dX10_plays_188 : decode cX10_plays 188 = .ok (.lcmp, 1) := by decide +kernel
theorem dX10_plays_189 : decode cX10_plays 189 = .ok (.ifCond .le 31, 3) := by decide +kernel
theorem dX10_plays_192 : decode cX10_plays 192 = .ok (.lload_n 3, 1) := by decide +kernel
theorem dX10_plays_193 : decode cX10_plays 193 = .ok (.aload_n 0, 1) := by decide +kernel
theorem dX10_plays_194 : decode cX10_plays 194 = .ok (.getfield 7, 3) := by decide +kernel
theorem dX10_plays_197 : decode cX10_plays 197 = .ok (.iconst 5, 1) := by decide +kernel
theorem dX10_plays_198 : decode cX10_plays 198 = .ok (.iaload, 1) := by decide +kernel
theorem dX10_plays_199 : decode cX10_plays 199 = .ok (.i2l, 1) := by decide +kernel
theorem dX10_plays_200 : decode cX10_plays 200 = .ok (.lcmp, 1) := by decide +kernel
theorem dX10_plays_201 : decode cX10_plays 201 = .ok (.ifCond .lt 19, 3) := by decide +kernel
theorem dX10_plays_204 : decode cX10_plays 204 = .ok (.aload_n 1, 1) := by decide +kernel
theorem dX10_plays_205 : decode cX10_plays 205 = .ok (.iconst 0, 1) := by decide +kernel
theorem dX10_plays_206 : decode cX10_plays 206 = .ok (.laload, 1) := by decide +kernel
theorem dX10_plays_207 : decode cX10_plays 207 = .ok (.ldc2_w 116, 3) := by decide +kernel
theorem dX10_plays_210 : decode cX10_plays 210 = .ok (.lrem, 1) := by decide +kernel
theorem dX10_plays_211 : decode cX10_plays 211 = .ok (.lconst 0, 1) := by decide +kernel
theorem dX10_plays_212 : decode cX10_plays 212 = .ok (.lcmp, 1) := by decide +kernel
theorem dX10_plays_213 : decode cX10_plays 213 = .ok (.ifCond .ne 7, 3) := by decide +kernel
theorem dX10_plays_216 : decode cX10_plays 216 = .ok (.iconst 1, 1) := by decide +kernel
theorem dX10_plays_217 : decode cX10_plays 217 = .ok (.goto 4, 3) := by decide +kernel
theorem dX10_plays_220 : decode cX10_plays 220 = .ok (.iconst 0, 1) := by decide +kernel
theorem dX10_plays_221 : decode cX10_plays 221 = .ok (.istore 5, 2) := by decide +kernel
theorem dX10_plays_223 : decode cX10_plays 223 = .ok (.aload_n 1, 1) := by decide +kernel
theorem dX10_plays_224 : decode cX10_plays 224 = .ok (.bipush 22, 2) := by decide +kernel
theorem dX10_plays_226 : decode cX10_plays 226 = .ok (.dup2, 1) := by decide +kernel
theorem dX10_plays_227 : decode cX10_plays 227 = .ok (.laload, 1) := by decide +kernel
theorem dX10_plays_228 : decode cX10_plays 228 = .ok (.aload_n 0, 1) := by decide +kernel
theorem dX10_plays_229 : decode cX10_plays 229 = .ok (.iconst 0, 1) := by decide +kernel
theorem dX10_plays_230 : decode cX10_plays 230 = .ok (.aload_n 1, 1) := by decide +kernel
theorem dX10_plays_231 : decode cX10_plays 231 = .ok (.bipush 50, 2) := by decide +kernel
theorem dX10_plays_233 : decode cX10_plays 233 = .ok (.aload_n 1, 1) := by decide +kernel
theorem dX10_plays_234 : decode cX10_plays 234 = .ok (.iconst 1, 1) := by decide +kernel
theorem dX10_plays_235 : decode cX10_plays 235 = .ok (.laload, 1) := by decide +kernel
theorem dX10_plays_236 : decode cX10_plays 236 = .ok (.aload_n 0, 1) := by decide +kernel
theorem dX10_plays_237 : decode cX10_plays 237 = .ok (.getfield 7, 3) := by decide +kernel
theorem dX10_plays_240 : decode cX10_plays 240 = .ok (.iconst 0, 1) := by decide +kernel
theorem dX10_plays_241 : decode cX10_plays 241 = .ok (.iaload, 1) := by decide +kernel
theorem dX10_plays_242 : decode cX10_plays 242 = .ok (.i2l, 1) := by decide +kernel
theorem dX10_plays_243 : decode cX10_plays 243 = .ok (.ldiv, 1) := by decide +kernel
theorem dX10_plays_244 : decode cX10_plays 244 = .ok (.l2i, 1) := by decide +kernel
theorem dX10_plays_245 : decode cX10_plays 245 = .ok (.iadd, 1) := by decide +kernel
theorem dX10_plays_246 : decode cX10_plays 246 = .ok (.laload, 1) := by decide +kernel
theorem dX10_plays_247 : decode cX10_plays 247 = .ok (.invokevirtual 59, 3) := by decide +kernel
theorem dX10_plays_250 : decode cX10_plays 250 = .ok (.i2l, 1) := by decide +kernel
theorem dX10_plays_251 : decode cX10_plays 251 = .ok (.ladd, 1) := by decide +kernel
theorem dX10_plays_252 : decode cX10_plays 252 = .ok (.lastore, 1) := by decide +kernel
theorem dX10_plays_253 : decode cX10_plays 253 = .ok (.aload_n 1, 1) := by decide +kernel
theorem dX10_plays_254 : decode cX10_plays 254 = .ok (.iconst 1, 1) := by decide +kernel
theorem dX10_plays_255 : decode cX10_plays 255 = .ok (.dup2, 1) := by decide +kernel
theorem dX10_plays_256 : decode cX10_plays 256 = .ok (.laload, 1) := by decide +kernel
theorem dX10_plays_257 : decode cX10_plays 257 = .ok (.iload 5, 2) := by decide +kernel
theorem dX10_plays_259 : decode cX10_plays 259 = .ok (.ifCond .eq 17, 3) := by decide +kernel
theorem dX10_plays_262 : decode cX10_plays 262 = .ok (.lload_n 3, 1) := by decide +kernel
theorem dX10_plays_263 : decode cX10_plays 263 = .ok (.ldc2_w 131, 3) := by decide +kernel
theorem dX10_plays_266 : decode cX10_plays 266 = .ok (.lcmp, 1) := by decide +kernel
theorem dX10_plays_267 : decode cX10_plays 267 = .ok (.ifCond .lt 9, 3) := by decide +kernel
theorem dX10_plays_270 : decode cX10_plays 270 = .ok (.ldc2_w 131, 3) := by decide +kernel
theorem dX10_plays_273 : decode cX10_plays 273 = .ok (.goto 4, 3) := by decide +kernel
theorem dX10_plays_276 : decode cX10_plays 276 = .ok (.lconst 1, 1) := by decide +kernel
theorem dX10_plays_277 : decode cX10_plays 277 = .ok (.ladd, 1) := by decide +kernel
theorem dX10_plays_278 : decode cX10_plays 278 = .ok (.lastore, 1) := by decide +kernel
theorem dX10_plays_279 : decode cX10_plays 279 = .ok (.return_, 1) := by decide +kernel
theorem cw_X10_124 {R : Room} {s : State} {args : Array Value} (hts : ∀ w ∈ TB, w.before args s = true) (hR : rm_X10_bufferIn.frames + 1 ≤ R.frames ∧ 8 + (6 + 11) + rm_X10_bufferIn.locals ≤ R.locals) : CallW R s args RX10 RX10 124 yX10_bufferIn cX10_bufferIn 6 (some .long) (Cond.code yX10_bufferIn cX10_bufferIn 6 (some .long) :: TB) rm_X10_bufferIn 0 0 1 := cwV 1 hts (gV tb1122 tb1123 tb37 tb57 tb1124) rfl rfl rfl ⟨rfl, by decide, by decide, by decide +kernel⟩ hR
theorem cw_X10_127 {R : Room} {s : State} {args : Array Value} (hts : ∀ w ∈ TB, w.before args s = true) (hR : rm_X10_hasAll.frames + 1 ≤ R.frames ∧ 8 + (2 + 11) + rm_X10_hasAll.locals ≤ R.locals) : CallW R s args RX10 RX10 127 yX10_hasAll cX10_hasAll 2 (some .boolean) (Cond.code yX10_hasAll cX10_hasAll 2 (some .boolean) :: TB) rm_X10_hasAll 0 0 1 := cwV 1 hts (gV tb1125 tb1126 tb38 tb57 tb1127) rfl rfl rfl ⟨rfl, by decide, by decide, by decide +kernel⟩ hR
def f_X10_plays_b117  (r4 : Nat → Int64) (s0 : Int32) : Option (Nat → Int64) :=
  if s0 = 0 then
    bnd (vp_updL r4 2 3) fun (u2 : Nat → Int64) =>
    if s0 = 0 then
      bnd (vp_updL u2 18 ((u2 18) + 1)) fun (u4 : Nat → Int64) =>
      some u4
    else
      bnd (vp_updL u2 18 ((u2 18) + 0)) fun (u5 : Nat → Int64) =>
      some u5
  else
    bnd (vp_updL r4 2 4) fun (u6 : Nat → Int64) =>
    if s0 = 0 then
      bnd (vp_updL u6 18 ((u6 18) + 1)) fun (u8 : Nat → Int64) =>
      some u8
    else
      bnd (vp_updL u6 18 ((u6 18) + 0)) fun (u9 : Nat → Int64) =>
      some u9
def f_X10_plays_b221 (r2 r3 : Nat → Int32) (r4 : Nat → Int64) (l3 : Int64) (s0 : Int32) : Option (Nat → Int64) :=
  grd (nz64 ((r2 0).toInt64)) <|
  grd (vin (50 + (((r4 1) / ((r2 0).toInt64)).toInt32)) 760) <|
  obnd (f_X10_rate r3 0 (r4 (50 + (((r4 1) / ((r2 0).toInt64)).toInt32)).toNatClampNeg)) fun (y3 : Int32) =>
  bnd (vp_updL r4 22 ((r4 22) + y3.toInt64)) fun (u4 : Nat → Int64) =>
  if s0 = 0 then
    bnd (vp_updL u4 1 ((u4 1) + 1)) fun (u6 : Nat → Int64) =>
    some u6
  else
    if l3 < 2 then
      bnd (vp_updL u4 1 ((u4 1) + 1)) fun (u8 : Nat → Int64) =>
      some u8
    else
      bnd (vp_updL u4 1 ((u4 1) + 2)) fun (u9 : Nat → Int64) =>
      some u9
def f_X10_plays_b220 (r2 r3 : Nat → Int32) (r4 : Nat → Int64) (l3 : Int64) : Option (Nat → Int64) :=
  f_X10_plays_b221 r2 r3 r4 l3 0
def f_X10_plays_b73 (r2 r3 : Nat → Int32) (r4 : Nat → Int64) (l3 : Int64) : Option (Nat → Int64) :=
  if (r4 2) = 2 then
    if l3 = 0 then
      if (r4 1) = (((r2 1).toInt64) * ((r2 0).toInt64)) then
        f_X10_plays_b117 r4 1
      else
        f_X10_plays_b117 r4 0
    else
      if (r2 13) ≤ 0 then
        f_X10_plays_b220 r2 r3 r4 l3
      else
        if (((r4 0) + ((r2 13).toInt64)) - (r4 1)) ≤ ((r2 14).toInt64) then
          f_X10_plays_b220 r2 r3 r4 l3
        else
          if l3 < ((r2 5).toInt64) then
            f_X10_plays_b220 r2 r3 r4 l3
          else
            if (rm64 (r4 0) 10) = 0 then
              f_X10_plays_b221 r2 r3 r4 l3 1
            else
              f_X10_plays_b220 r2 r3 r4 l3
  else
    some r4
def f_X10_plays_b72 (r2 r3 : Nat → Int32) (r4 : Nat → Int64) (l3 : Int64) (s1 : Int32) (s2 : Int64) : Option (Nat → Int64) :=
  grd (vin s1 760) <|
  bnd (vp_updL r4 s1.toNatClampNeg s2) fun (u2 : Nat → Int64) =>
  f_X10_plays_b73 r2 r3 u2 l3
def f_X10_plays_b63 (r2 r3 : Nat → Int32) (r4 : Nat → Int64) (l3 : Int64) (s1 : Int32) : Option (Nat → Int64) :=
  f_X10_plays_b72 r2 r3 r4 l3 s1 2
def f_X10_plays_b44 (r1 r2 r3 : Nat → Int32) (r4 : Nat → Int64) (l3 s0 : Int64) : Option (Nat → Int64) :=
  if s0 ≤ l3 then
    f_X10_plays_b63 r2 r3 r4 l3 2
  else
    if (f_X10_hasAll r1 r2 r4) = 0 then
      f_X10_plays_b72 r2 r3 r4 l3 2 (r4 2)
    else
      f_X10_plays_b63 r2 r3 r4 l3 2
def f_X10_plays_b24 (r1 r2 r3 : Nat → Int32) (r4 : Nat → Int64) (l2 : Int32) (l3 : Int64) : Option (Nat → Int64) :=
  if (r4 2) = 1 then
    f_X10_plays_b44 r1 r2 r3 r4 l3 l2.toInt64
  else
    f_X10_plays_b44 r1 r2 r3 r4 l3 ((r2 4).toInt64)
def f_X10_plays (r1 r2 r3 : Nat → Int32) (r4 : Nat → Int64) (p1 : Int32) : Option (Nat → Int64) :=
  obnd (f_X10_bufferIn r1 r2 r4) fun (z1 : Int64) =>
  if (r4 2) = 1 then
    f_X10_plays_b24 r1 r2 r3 r4 p1 z1
  else
    if (r4 2) = 3 then
      f_X10_plays_b24 r1 r2 r3 r4 p1 z1
    else
      f_X10_plays_b73 r2 r3 r4 z1
set_option maxHeartbeats 4000000 in
set_option maxRecDepth 100000 in
theorem k_X10_plays_b117 {p : Program} {l : Launch} {e : Env} {s : State} {m : MethodId} {args : Array Value} {below : List Frame} {meth : Method} {c : Code} {D : va_G} {cI cJ cC : ClassId} {h0 h1 h2 h3 h4 kthis_lengths kthis_flows kthis_now kthis_trial : Nat} {v0_phases v0_has v0_thrown : Int32} {r1 r2 r3 : Nat → Int32} {t0 : Nat → Int64}{A : Nat → Prop} (S : CallFix p m c cX10_plays 7 s args TB RX10) (hr : meth.sig.returnType = none) (hlk : meth.locks = false) (hK : va_K D vwCl (ty3 cI cJ cC) s) (hA : ∀ q : Nat, s.heap.size ≤ q → A q) : ∀ (r4 : Nat → Int64) (s0 : Int32) (H : Heap) (locs : List Loc) (ls : Array Slot), f_X10_plays_b117 r4 s0 = some t0 → va_P D vwCl [(h0, .inr (10, [.ref h2, .ref h3, .ref h1, .ref kthis_lengths, .ref kthis_flows, .int v0_phases, .ref kthis_now, .ref kthis_trial, .int v0_has, .int v0_thrown])), (h1, .inl (cI, 2, .inl r1)), (h2, .inl (cI, 15, .inl r2)), (h3, .inl (cI, 12, .inl r3)), (h4, .inl (cJ, 760, .inr (.inl r4)))] H → va_D A [(h0, .inr (10, [.ref h2, .ref h3, .ref h1, .ref kthis_lengths, .ref kthis_flows, .int v0_phases, .ref kthis_now, .ref kthis_trial, .int v0_has, .int v0_thrown])), (h1, .inl (cI, 2, .inl r1)), (h2, .inl (cI, 15, .inl r2)), (h3, .inl (cI, 12, .inl r3)), (h4, .inl (cJ, 760, .inr (.inl r4)))] → va_S A s.heap H locs → lv_has ls 7 [(1, .ref h4)] → W p l e rm_X10_plays s m args below meth c H locs 0 0 (MQ below (QW none D [(h0, .inr (10, [.ref h2, .ref h3, .ref h1, .ref kthis_lengths, .ref kthis_flows, .int v0_phases, .ref kthis_now, .ref kthis_trial, .int v0_has, .int v0_thrown])), (h1, .inl (cI, 2, .inl r1)), (h2, .inl (cI, 15, .inl r2)), (h3, .inl (cI, 12, .inl r3)), (h4, .inl (cJ, 760, .inr (.inl t0)))] A) args s 0 0 A) (F0 m 117 ls [.int s0]) := by
  have hx := S.1
  have hb := S.2.1
  intro r4 s0 H locs ls h hP hD hS hl
  refine lv_istore (lv' := [(5, .int s0), (1, .ref h4)]) hx hb dX10_plays_117 hl (by decide) rfl (fun ls hl => ?_)
  refine lv_aload_n hx hb dX10_plays_119 rfl (lv_at hl 1 rfl) ?_
  refine lv_iconst (v := 2) hx hb dX10_plays_120 li_2 ?_
  refine lv_iload hx hb dX10_plays_121 (lv_at hl 0 rfl) ?_
  refine lv_if_eq (tgt := 132) hx hb dX10_plays_123 (by decide) (fun c1 => ?_) (fun c1 => ?_)
  · have h := iteP c1 h
    refine lv_ldc2 (v := 3) hx hb S.2.2.2.1 (S.2.2.2.2 _ tb1047) dX10_plays_132 ?_
    refine astJ (k := 2) (q0 := 4) S hK hP hD hS rfl vl_2_760 tn_2 dX10_plays_135 (fun H locs hP hD hS => ?_)
    have hP : va_P D vwCl [(h0, .inr (10, [.ref h2, .ref h3, .ref h1, .ref kthis_lengths, .ref kthis_flows, .int v0_phases, .ref kthis_now, .ref kthis_trial, .int v0_has, .int v0_thrown])), (h1, .inl (cI, 2, .inl r1)), (h2, .inl (cI, 15, .inl r2)), (h3, .inl (cI, 12, .inl r3)), (h4, .inl (cJ, 760, .inr (.inl (vp_updL r4 2 3))))] H := hP
    have hD : va_D A [(h0, .inr (10, [.ref h2, .ref h3, .ref h1, .ref kthis_lengths, .ref kthis_flows, .int v0_phases, .ref kthis_now, .ref kthis_trial, .int v0_has, .int v0_thrown])), (h1, .inl (cI, 2, .inl r1)), (h2, .inl (cI, 15, .inl r2)), (h3, .inl (cI, 12, .inl r3)), (h4, .inl (cJ, 760, .inr (.inl (vp_updL r4 2 3))))] := hD
    obtain ⟨u2, e_u2⟩ : ∃ z, z = vp_updL r4 2 3 := ⟨_, rfl⟩
    rw [← e_u2] at hP hD
    have h := bnd_eq e_u2.symm h
    refine lv_aload_n hx hb dX10_plays_136 rfl (lv_at hl 1 rfl) ?_
    refine lv_bipush (v := 18) hx hb dX10_plays_137 lb_18 ?_
    refine lv_dup2_11 hx hb dX10_plays_139 rfl rfl ?_
    refine aldJ (k := 18) (q0 := 4) S hK hP rfl vl_18_760 tn_18 dX10_plays_140 ?_
    refine lv_iload hx hb dX10_plays_141 (lv_at hl 0 rfl) ?_
    refine lv_if_eq (tgt := 150) hx hb dX10_plays_143 (by decide) (fun c3 => ?_) (fun c3 => ?_)
    · have h := iteP c3 h
      refine lv_lconst (v := 1) hx hb dX10_plays_150 rfl ?_
      refine lv_ladd hx hb dX10_plays_151 ?_
      refine astJ (k := 18) (q0 := 4) S hK hP hD hS rfl vl_18_760 tn_18 dX10_plays_152 (fun H locs hP hD hS => ?_)
      have hP : va_P D vwCl [(h0, .inr (10, [.ref h2, .ref h3, .ref h1, .ref kthis_lengths, .ref kthis_flows, .int v0_phases, .ref kthis_now, .ref kthis_trial, .int v0_has, .int v0_thrown])), (h1, .inl (cI, 2, .inl r1)), (h2, .inl (cI, 15, .inl r2)), (h3, .inl (cI, 12, .inl r3)), (h4, .inl (cJ, 760, .inr (.inl (vp_updL u2 18 ((u2 18) + 1)))))] H := hP
      have hD : va_D A [(h0, .inr (10, [.ref h2, .ref h3, .ref h1, .ref kthis_lengths, .ref kthis_flows, .int v0_phases, .ref kthis_now, .ref kthis_trial, .int v0_has, .int v0_thrown])), (h1, .inl (cI, 2, .inl r1)), (h2, .inl (cI, 15, .inl r2)), (h3, .inl (cI, 12, .inl r3)), (h4, .inl (cJ, 760, .inr (.inl (vp_updL u2 18 ((u2 18) + 1)))))] := hD
      obtain ⟨u4, e_u4⟩ : ∃ z, z = vp_updL u2 18 ((u2 18) + 1) := ⟨_, rfl⟩
      rw [← e_u4] at hP hD
      have h := bnd_eq e_u4.symm h
      have h := Option.some.inj h
      subst h
      exact wRv S hr hlk (hP.sub [0, 1, 2, 3, 4] rfl) (hD.sub [0, 1, 2, 3, 4] (by decide) rfl) hS dX10_plays_153
    · have h := iteN c3 h
      refine lv_lconst (v := 0) hx hb dX10_plays_146 rfl ?_
      refine lv_goto (tgt := 151) hx hb dX10_plays_147 (by decide) ?_
      refine lv_ladd hx hb dX10_plays_151 ?_
      refine astJ (k := 18) (q0 := 4) S hK hP hD hS rfl vl_18_760 tn_18 dX10_plays_152 (fun H locs hP hD hS => ?_)
      have hP : va_P D vwCl [(h0, .inr (10, [.ref h2, .ref h3, .ref h1, .ref kthis_lengths, .ref kthis_flows, .int v0_phases, .ref kthis_now, .ref kthis_trial, .int v0_has, .int v0_thrown])), (h1, .inl (cI, 2, .inl r1)), (h2, .inl (cI, 15, .inl r2)), (h3, .inl (cI, 12, .inl r3)), (h4, .inl (cJ, 760, .inr (.inl (vp_updL u2 18 ((u2 18) + 0)))))] H := hP
      have hD : va_D A [(h0, .inr (10, [.ref h2, .ref h3, .ref h1, .ref kthis_lengths, .ref kthis_flows, .int v0_phases, .ref kthis_now, .ref kthis_trial, .int v0_has, .int v0_thrown])), (h1, .inl (cI, 2, .inl r1)), (h2, .inl (cI, 15, .inl r2)), (h3, .inl (cI, 12, .inl r3)), (h4, .inl (cJ, 760, .inr (.inl (vp_updL u2 18 ((u2 18) + 0)))))] := hD
      obtain ⟨u5, e_u5⟩ : ∃ z, z = vp_updL u2 18 ((u2 18) + 0) := ⟨_, rfl⟩
      rw [← e_u5] at hP hD
      have h := bnd_eq e_u5.symm h
      have h := Option.some.inj h
      subst h
      exact wRv S hr hlk (hP.sub [0, 1, 2, 3, 4] rfl) (hD.sub [0, 1, 2, 3, 4] (by decide) rfl) hS dX10_plays_153
  · have h := iteN c1 h
    refine lv_ldc2 (v := 4) hx hb S.2.2.2.1 (S.2.2.2.2 _ tb1128) dX10_plays_126 ?_
    refine lv_goto (tgt := 135) hx hb dX10_plays_129 (by decide) ?_
    refine astJ (k := 2) (q0 := 4) S hK hP hD hS rfl vl_2_760 tn_2 dX10_plays_135 (fun H locs hP hD hS => ?_)
    have hP : va_P D vwCl [(h0, .inr (10, [.ref h2, .ref h3, .ref h1, .ref kthis_lengths, .ref kthis_flows, .int v0_phases, .ref kthis_now, .ref kthis_trial, .int v0_has, .int v0_thrown])), (h1, .inl (cI, 2, .inl r1)), (h2, .inl (cI, 15, .inl r2)), (h3, .inl (cI, 12, .inl r3)), (h4, .inl (cJ, 760, .inr (.inl (vp_updL r4 2 4))))] H := hP
    have hD : va_D A [(h0, .inr (10, [.ref h2, .ref h3, .ref h1, .ref kthis_lengths, .ref kthis_flows, .int v0_phases, .ref kthis_now, .ref kthis_trial, .int v0_has, .int v0_thrown])), (h1, .inl (cI, 2, .inl r1)), (h2, .inl (cI, 15, .inl r2)), (h3, .inl (cI, 12, .inl r3)), (h4, .inl (cJ, 760, .inr (.inl (vp_updL r4 2 4))))] := hD
    obtain ⟨u6, e_u6⟩ : ∃ z, z = vp_updL r4 2 4 := ⟨_, rfl⟩
    rw [← e_u6] at hP hD
    have h := bnd_eq e_u6.symm h
    refine lv_aload_n hx hb dX10_plays_136 rfl (lv_at hl 1 rfl) ?_
    refine lv_bipush (v := 18) hx hb dX10_plays_137 lb_18 ?_
    refine lv_dup2_11 hx hb dX10_plays_139 rfl rfl ?_
    refine aldJ (k := 18) (q0 := 4) S hK hP rfl vl_18_760 tn_18 dX10_plays_140 ?_
    refine lv_iload hx hb dX10_plays_141 (lv_at hl 0 rfl) ?_
    refine lv_if_eq (tgt := 150) hx hb dX10_plays_143 (by decide) (fun c7 => ?_) (fun c7 => ?_)
    · have h := iteP c7 h
      refine lv_lconst (v := 1) hx hb dX10_plays_150 rfl ?_
      refine lv_ladd hx hb dX10_plays_151 ?_
      refine astJ (k := 18) (q0 := 4) S hK hP hD hS rfl vl_18_760 tn_18 dX10_plays_152 (fun H locs hP hD hS => ?_)
      have hP : va_P D vwCl [(h0, .inr (10, [.ref h2, .ref h3, .ref h1, .ref kthis_lengths, .ref kthis_flows, .int v0_phases, .ref kthis_now, .ref kthis_trial, .int v0_has, .int v0_thrown])), (h1, .inl (cI, 2, .inl r1)), (h2, .inl (cI, 15, .inl r2)), (h3, .inl (cI, 12, .inl r3)), (h4, .inl (cJ, 760, .inr (.inl (vp_updL u6 18 ((u6 18) + 1)))))] H := hP
      have hD : va_D A [(h0, .inr (10, [.ref h2, .ref h3, .ref h1, .ref kthis_lengths, .ref kthis_flows, .int v0_phases, .ref kthis_now, .ref kthis_trial, .int v0_has, .int v0_thrown])), (h1, .inl (cI, 2, .inl r1)), (h2, .inl (cI, 15, .inl r2)), (h3, .inl (cI, 12, .inl r3)), (h4, .inl (cJ, 760, .inr (.inl (vp_updL u6 18 ((u6 18) + 1)))))] := hD
      obtain ⟨u8, e_u8⟩ : ∃ z, z = vp_updL u6 18 ((u6 18) + 1) := ⟨_, rfl⟩
      rw [← e_u8] at hP hD
      have h := bnd_eq e_u8.symm h
      have h := Option.some.inj h
      subst h
      exact wRv S hr hlk (hP.sub [0, 1, 2, 3, 4] rfl) (hD.sub [0, 1, 2, 3, 4] (by decide) rfl) hS dX10_plays_153
    · have h := iteN c7 h
      refine lv_lconst (v := 0) hx hb dX10_plays_146 rfl ?_
      refine lv_goto (tgt := 151) hx hb dX10_plays_147 (by decide) ?_
      refine lv_ladd hx hb dX10_plays_151 ?_
      refine astJ (k := 18) (q0 := 4) S hK hP hD hS rfl vl_18_760 tn_18 dX10_plays_152 (fun H locs hP hD hS => ?_)
      have hP : va_P D vwCl [(h0, .inr (10, [.ref h2, .ref h3, .ref h1, .ref kthis_lengths, .ref kthis_flows, .int v0_phases, .ref kthis_now, .ref kthis_trial, .int v0_has, .int v0_thrown])), (h1, .inl (cI, 2, .inl r1)), (h2, .inl (cI, 15, .inl r2)), (h3, .inl (cI, 12, .inl r3)), (h4, .inl (cJ, 760, .inr (.inl (vp_updL u6 18 ((u6 18) + 0)))))] H := hP
      have hD : va_D A [(h0, .inr (10, [.ref h2, .ref h3, .ref h1, .ref kthis_lengths, .ref kthis_flows, .int v0_phases, .ref kthis_now, .ref kthis_trial, .int v0_has, .int v0_thrown])), (h1, .inl (cI, 2, .inl r1)), (h2, .inl (cI, 15, .inl r2)), (h3, .inl (cI, 12, .inl r3)), (h4, .inl (cJ, 760, .inr (.inl (vp_updL u6 18 ((u6 18) + 0)))))] := hD
      obtain ⟨u9, e_u9⟩ : ∃ z, z = vp_updL u6 18 ((u6 18) + 0) := ⟨_, rfl⟩
      rw [← e_u9] at hP hD
      have h := bnd_eq e_u9.symm h
      have h := Option.some.inj h
      subst h
      exact wRv S hr hlk (hP.sub [0, 1, 2, 3, 4] rfl) (hD.sub [0, 1, 2, 3, 4] (by decide) rfl) hS dX10_plays_153
set_option maxHeartbeats 4000000 in
set_option maxRecDepth 100000 in
theorem k_X10_plays_b221 {p : Program} {l : Launch} {e : Env} {s : State} {m : MethodId} {args : Array Value} {below : List Frame} {meth : Method} {c : Code} {D : va_G} {cI cJ cC : ClassId} {h0 h1 h2 h3 h4 kthis_lengths kthis_flows kthis_now kthis_trial : Nat} {v0_phases v0_has v0_thrown : Int32} {r1 r2 r3 : Nat → Int32} {t0 : Nat → Int64}{A : Nat → Prop} (S : CallFix p m c cX10_plays 7 s args TB RX10) (hr : meth.sig.returnType = none) (hlk : meth.locks = false) (hK : va_K D vwCl (ty3 cI cJ cC) s) (hA : ∀ q : Nat, s.heap.size ≤ q → A q) : ∀ (r4 : Nat → Int64) (l3 : Int64) (s0 : Int32) (H : Heap) (locs : List Loc) (ls : Array Slot), f_X10_plays_b221 r2 r3 r4 l3 s0 = some t0 → va_P D vwCl [(h0, .inr (10, [.ref h2, .ref h3, .ref h1, .ref kthis_lengths, .ref kthis_flows, .int v0_phases, .ref kthis_now, .ref kthis_trial, .int v0_has, .int v0_thrown])), (h1, .inl (cI, 2, .inl r1)), (h2, .inl (cI, 15, .inl r2)), (h3, .inl (cI, 12, .inl r3)), (h4, .inl (cJ, 760, .inr (.inl r4)))] H → va_D A [(h0, .inr (10, [.ref h2, .ref h3, .ref h1, .ref kthis_lengths, .ref kthis_flows, .int v0_phases, .ref kthis_now, .ref kthis_trial, .int v0_has, .int v0_thrown])), (h1, .inl (cI, 2, .inl r1)), (h2, .inl (cI, 15, .inl r2)), (h3, .inl (cI, 12, .inl r3)), (h4, .inl (cJ, 760, .inr (.inl r4)))] → va_S A s.heap H locs → lv_has ls 7 [(0, .ref h0), (1, .ref h4), (3, .long l3)] → W p l e rm_X10_plays s m args below meth c H locs 0 0 (MQ below (QW none D [(h0, .inr (10, [.ref h2, .ref h3, .ref h1, .ref kthis_lengths, .ref kthis_flows, .int v0_phases, .ref kthis_now, .ref kthis_trial, .int v0_has, .int v0_thrown])), (h1, .inl (cI, 2, .inl r1)), (h2, .inl (cI, 15, .inl r2)), (h3, .inl (cI, 12, .inl r3)), (h4, .inl (cJ, 760, .inr (.inl t0)))] A) args s 0 0 A) (F0 m 221 ls [.int s0]) := by
  have hx := S.1
  have hb := S.2.1
  intro r4 l3 s0 H locs ls h hP hD hS hl
  refine lv_istore (lv' := [(5, .int s0), (0, .ref h0), (1, .ref h4), (3, .long l3)]) hx hb dX10_plays_221 hl (by decide) rfl (fun ls hl => ?_)
  refine lv_aload_n hx hb dX10_plays_223 rfl (lv_at hl 2 rfl) ?_
  refine lv_bipush (v := 22) hx hb dX10_plays_224 lb_22 ?_
  refine lv_dup2_11 hx hb dX10_plays_226 rfl rfl ?_
  refine aldJ (k := 22) (q0 := 4) S hK hP rfl vl_22_760 tn_22 dX10_plays_227 ?_
  refine lv_aload_n hx hb dX10_plays_228 rfl (lv_at hl 1 rfl) ?_
  refine lv_iconst (v := 0) hx hb dX10_plays_229 li_0 ?_
  refine lv_aload_n hx hb dX10_plays_230 rfl (lv_at hl 2 rfl) ?_
  refine lv_bipush (v := 50) hx hb dX10_plays_231 lb_50 ?_
  refine lv_aload_n hx hb dX10_plays_233 rfl (lv_at hl 2 rfl) ?_
  refine lv_iconst (v := 1) hx hb dX10_plays_234 li_1 ?_
  refine aldJ (k := 1) (q0 := 4) S hK hP rfl vl_1_760 tn_1 dX10_plays_235 ?_
  refine lv_aload_n hx hb dX10_plays_236 rfl (lv_at hl 1 rfl) ?_
  refine gf_X10_7 (v := .ref h2) S hK hP 0 rfl rfl dX10_plays_237 ?_
  refine lv_iconst (v := 0) hx hb dX10_plays_240 li_0 ?_
  refine aldI (k := 0) (q0 := 2) S hK hP rfl vl_0_15 tn_0 dX10_plays_241 ?_
  refine lv_i2l hx hb dX10_plays_242 rfl ?_
  obtain ⟨g1, h⟩ := grd_eq h
  refine lv_ldiv hx hb dX10_plays_243 (nz64_ne g1) ?_
  refine lv_l2i hx hb dX10_plays_244 rfl ?_
  refine lv_iadd hx hb dX10_plays_245 ?_
  obtain ⟨g2, h⟩ := grd_eq h
  refine aldJ (k := (50 + (((r4 1) / ((r2 0).toInt64)).toInt32)).toNatClampNeg) (q0 := 4) S hK hP rfl (vin_in g2) rfl dX10_plays_246 ?_
  obtain ⟨y3, e_y3, h⟩ := obnd_eq h
  refine rdV (pc1 := 250) (rest := [.long (r4 22), .int 22, .ref h4]) (st1 := [.int y3, .long (r4 22), .int 22, .ref h4]) S (c_X10_rate l D cI cJ cC h0 h3 h2 h1 kthis_lengths kthis_flows kthis_now kthis_trial v0_phases v0_has v0_thrown r3 0 (r4 (50 + (((r4 1) / ((r2 0).toInt64)).toInt32)).toNatClampNeg) y3 e_y3) (cw_X10_59 S.2.2.2.2 ⟨Nat.le_of_ble_eq_true rfl, Nat.le_of_ble_eq_true rfl⟩) hK (hP.sub [0, 3] rfl) rfl rfl rfl rfl hl.1 rfl (Nat.le_of_ble_eq_true rfl) ⟨Nat.zero_le _, Nat.zero_le _⟩ rfl rfl dX10_plays_247 ?_
  refine lv_i2l hx hb dX10_plays_250 rfl ?_
  refine lv_ladd hx hb dX10_plays_251 ?_
  refine astJ (k := 22) (q0 := 4) S hK hP hD hS rfl vl_22_760 tn_22 dX10_plays_252 (fun H locs hP hD hS => ?_)
  have hP : va_P D vwCl [(h0, .inr (10, [.ref h2, .ref h3, .ref h1, .ref kthis_lengths, .ref kthis_flows, .int v0_phases, .ref kthis_now, .ref kthis_trial, .int v0_has, .int v0_thrown])), (h1, .inl (cI, 2, .inl r1)), (h2, .inl (cI, 15, .inl r2)), (h3, .inl (cI, 12, .inl r3)), (h4, .inl (cJ, 760, .inr (.inl (vp_updL r4 22 ((r4 22) + y3.toInt64)))))] H := hP
  have hD : va_D A [(h0, .inr (10, [.ref h2, .ref h3, .ref h1, .ref kthis_lengths, .ref kthis_flows, .int v0_phases, .ref kthis_now, .ref kthis_trial, .int v0_has, .int v0_thrown])), (h1, .inl (cI, 2, .inl r1)), (h2, .inl (cI, 15, .inl r2)), (h3, .inl (cI, 12, .inl r3)), (h4, .inl (cJ, 760, .inr (.inl (vp_updL r4 22 ((r4 22) + y3.toInt64)))))] := hD
  obtain ⟨u4, e_u4⟩ : ∃ z, z = vp_updL r4 22 ((r4 22) + y3.toInt64) := ⟨_, rfl⟩
  rw [← e_u4] at hP hD
  have h := bnd_eq e_u4.symm h
  refine lv_aload_n hx hb dX10_plays_253 rfl (lv_at hl 2 rfl) ?_
  refine lv_iconst (v := 1) hx hb dX10_plays_254 li_1 ?_
  refine lv_dup2_11 hx hb dX10_plays_255 rfl rfl ?_
  refine aldJ (k := 1) (q0 := 4) S hK hP rfl vl_1_760 tn_1 dX10_plays_256 ?_
  refine lv_iload hx hb dX10_plays_257 (lv_at hl 0 rfl) ?_
  refine lv_if_eq (tgt := 276) hx hb dX10_plays_259 (by decide) (fun c5 => ?_) (fun c5 => ?_)
  · have h := iteP c5 h
    refine lv_lconst (v := 1) hx hb dX10_plays_276 rfl ?_
    refine lv_ladd hx hb dX10_plays_277 ?_
    refine astJ (k := 1) (q0 := 4) S hK hP hD hS rfl vl_1_760 tn_1 dX10_plays_278 (fun H locs hP hD hS => ?_)
    have hP : va_P D vwCl [(h0, .inr (10, [.ref h2, .ref h3, .ref h1, .ref kthis_lengths, .ref kthis_flows, .int v0_phases, .ref kthis_now, .ref kthis_trial, .int v0_has, .int v0_thrown])), (h1, .inl (cI, 2, .inl r1)), (h2, .inl (cI, 15, .inl r2)), (h3, .inl (cI, 12, .inl r3)), (h4, .inl (cJ, 760, .inr (.inl (vp_updL u4 1 ((u4 1) + 1)))))] H := hP
    have hD : va_D A [(h0, .inr (10, [.ref h2, .ref h3, .ref h1, .ref kthis_lengths, .ref kthis_flows, .int v0_phases, .ref kthis_now, .ref kthis_trial, .int v0_has, .int v0_thrown])), (h1, .inl (cI, 2, .inl r1)), (h2, .inl (cI, 15, .inl r2)), (h3, .inl (cI, 12, .inl r3)), (h4, .inl (cJ, 760, .inr (.inl (vp_updL u4 1 ((u4 1) + 1)))))] := hD
    obtain ⟨u6, e_u6⟩ : ∃ z, z = vp_updL u4 1 ((u4 1) + 1) := ⟨_, rfl⟩
    rw [← e_u6] at hP hD
    have h := bnd_eq e_u6.symm h
    have h := Option.some.inj h
    subst h
    exact wRv S hr hlk (hP.sub [0, 1, 2, 3, 4] rfl) (hD.sub [0, 1, 2, 3, 4] (by decide) rfl) hS dX10_plays_279
  · have h := iteN c5 h
    refine lv_lload_n hx hb dX10_plays_262 rfl (lv_at hl 3 rfl) ?_
    refine lv_ldc2 (v := 2) hx hb S.2.2.2.1 (S.2.2.2.2 _ tb1082) dX10_plays_263 ?_
    refine lc_lt (tgt := 276) hx hb dX10_plays_266 dX10_plays_267 (by decide) (fun c7 => ?_) (fun c7 => ?_)
    · have h := iteP c7 h
      refine lv_lconst (v := 1) hx hb dX10_plays_276 rfl ?_
      refine lv_ladd hx hb dX10_plays_277 ?_
      refine astJ (k := 1) (q0 := 4) S hK hP hD hS rfl vl_1_760 tn_1 dX10_plays_278 (fun H locs hP hD hS => ?_)
      have hP : va_P D vwCl [(h0, .inr (10, [.ref h2, .ref h3, .ref h1, .ref kthis_lengths, .ref kthis_flows, .int v0_phases, .ref kthis_now, .ref kthis_trial, .int v0_has, .int v0_thrown])), (h1, .inl (cI, 2, .inl r1)), (h2, .inl (cI, 15, .inl r2)), (h3, .inl (cI, 12, .inl r3)), (h4, .inl (cJ, 760, .inr (.inl (vp_updL u4 1 ((u4 1) + 1)))))] H := hP
      have hD : va_D A [(h0, .inr (10, [.ref h2, .ref h3, .ref h1, .ref kthis_lengths, .ref kthis_flows, .int v0_phases, .ref kthis_now, .ref kthis_trial, .int v0_has, .int v0_thrown])), (h1, .inl (cI, 2, .inl r1)), (h2, .inl (cI, 15, .inl r2)), (h3, .inl (cI, 12, .inl r3)), (h4, .inl (cJ, 760, .inr (.inl (vp_updL u4 1 ((u4 1) + 1)))))] := hD
      obtain ⟨u8, e_u8⟩ : ∃ z, z = vp_updL u4 1 ((u4 1) + 1) := ⟨_, rfl⟩
      rw [← e_u8] at hP hD
      have h := bnd_eq e_u8.symm h
      have h := Option.some.inj h
      subst h
      exact wRv S hr hlk (hP.sub [0, 1, 2, 3, 4] rfl) (hD.sub [0, 1, 2, 3, 4] (by decide) rfl) hS dX10_plays_279
    · have h := iteN c7 h
      refine lv_ldc2 (v := 2) hx hb S.2.2.2.1 (S.2.2.2.2 _ tb1082) dX10_plays_270 ?_
      refine lv_goto (tgt := 277) hx hb dX10_plays_273 (by decide) ?_
      refine lv_ladd hx hb dX10_plays_277 ?_
      refine astJ (k := 1) (q0 := 4) S hK hP hD hS rfl vl_1_760 tn_1 dX10_plays_278 (fun H locs hP hD hS => ?_)
      have hP : va_P D vwCl [(h0, .inr (10, [.ref h2, .ref h3, .ref h1, .ref kthis_lengths, .ref kthis_flows, .int v0_phases, .ref kthis_now, .ref kthis_trial, .int v0_has, .int v0_thrown])), (h1, .inl (cI, 2, .inl r1)), (h2, .inl (cI, 15, .inl r2)), (h3, .inl (cI, 12, .inl r3)), (h4, .inl (cJ, 760, .inr (.inl (vp_updL u4 1 ((u4 1) + 2)))))] H := hP
      have hD : va_D A [(h0, .inr (10, [.ref h2, .ref h3, .ref h1, .ref kthis_lengths, .ref kthis_flows, .int v0_phases, .ref kthis_now, .ref kthis_trial, .int v0_has, .int v0_thrown])), (h1, .inl (cI, 2, .inl r1)), (h2, .inl (cI, 15, .inl r2)), (h3, .inl (cI, 12, .inl r3)), (h4, .inl (cJ, 760, .inr (.inl (vp_updL u4 1 ((u4 1) + 2)))))] := hD
      obtain ⟨u9, e_u9⟩ : ∃ z, z = vp_updL u4 1 ((u4 1) + 2) := ⟨_, rfl⟩
      rw [← e_u9] at hP hD
      have h := bnd_eq e_u9.symm h
      have h := Option.some.inj h
      subst h
      exact wRv S hr hlk (hP.sub [0, 1, 2, 3, 4] rfl) (hD.sub [0, 1, 2, 3, 4] (by decide) rfl) hS dX10_plays_279
set_option maxHeartbeats 4000000 in
set_option maxRecDepth 100000 in
theorem k_X10_plays_b220 {p : Program} {l : Launch} {e : Env} {s : State} {m : MethodId} {args : Array Value} {below : List Frame} {meth : Method} {c : Code} {D : va_G} {cI cJ cC : ClassId} {h0 h1 h2 h3 h4 kthis_lengths kthis_flows kthis_now kthis_trial : Nat} {v0_phases v0_has v0_thrown : Int32} {r1 r2 r3 : Nat → Int32} {t0 : Nat → Int64}{A : Nat → Prop} (S : CallFix p m c cX10_plays 7 s args TB RX10) (hr : meth.sig.returnType = none) (hlk : meth.locks = false) (hK : va_K D vwCl (ty3 cI cJ cC) s) (hA : ∀ q : Nat, s.heap.size ≤ q → A q) : ∀ (r4 : Nat → Int64) (l3 : Int64) (H : Heap) (locs : List Loc) (ls : Array Slot), f_X10_plays_b220 r2 r3 r4 l3 = some t0 → va_P D vwCl [(h0, .inr (10, [.ref h2, .ref h3, .ref h1, .ref kthis_lengths, .ref kthis_flows, .int v0_phases, .ref kthis_now, .ref kthis_trial, .int v0_has, .int v0_thrown])), (h1, .inl (cI, 2, .inl r1)), (h2, .inl (cI, 15, .inl r2)), (h3, .inl (cI, 12, .inl r3)), (h4, .inl (cJ, 760, .inr (.inl r4)))] H → va_D A [(h0, .inr (10, [.ref h2, .ref h3, .ref h1, .ref kthis_lengths, .ref kthis_flows, .int v0_phases, .ref kthis_now, .ref kthis_trial, .int v0_has, .int v0_thrown])), (h1, .inl (cI, 2, .inl r1)), (h2, .inl (cI, 15, .inl r2)), (h3, .inl (cI, 12, .inl r3)), (h4, .inl (cJ, 760, .inr (.inl r4)))] → va_S A s.heap H locs → lv_has ls 7 [(0, .ref h0), (1, .ref h4), (3, .long l3)] → W p l e rm_X10_plays s m args below meth c H locs 0 0 (MQ below (QW none D [(h0, .inr (10, [.ref h2, .ref h3, .ref h1, .ref kthis_lengths, .ref kthis_flows, .int v0_phases, .ref kthis_now, .ref kthis_trial, .int v0_has, .int v0_thrown])), (h1, .inl (cI, 2, .inl r1)), (h2, .inl (cI, 15, .inl r2)), (h3, .inl (cI, 12, .inl r3)), (h4, .inl (cJ, 760, .inr (.inl t0)))] A) args s 0 0 A) (F0 m 220 ls []) := by
  have hx := S.1
  have hb := S.2.1
  intro r4 l3 H locs ls h hP hD hS hl
  refine lv_iconst (v := 0) hx hb dX10_plays_220 li_0 ?_
  exact k_X10_plays_b221 S hr hlk hK hA r4 l3 0 _ _ _ h (hP.sub [0, 1, 2, 3, 4] rfl) (hD.sub [0, 1, 2, 3, 4] (by decide) rfl) hS (lv_sub hl [0, 1, 2] rfl)
set_option maxHeartbeats 4000000 in
set_option maxRecDepth 100000 in
theorem k_X10_plays_b73 {p : Program} {l : Launch} {e : Env} {s : State} {m : MethodId} {args : Array Value} {below : List Frame} {meth : Method} {c : Code} {D : va_G} {cI cJ cC : ClassId} {h0 h1 h2 h3 h4 kthis_lengths kthis_flows kthis_now kthis_trial : Nat} {v0_phases v0_has v0_thrown : Int32} {r1 r2 r3 : Nat → Int32} {t0 : Nat → Int64}{A : Nat → Prop} (S : CallFix p m c cX10_plays 7 s args TB RX10) (hr : meth.sig.returnType = none) (hlk : meth.locks = false) (hK : va_K D vwCl (ty3 cI cJ cC) s) (hA : ∀ q : Nat, s.heap.size ≤ q → A q) : ∀ (r4 : Nat → Int64) (l3 : Int64) (H : Heap) (locs : List Loc) (ls : Array Slot), f_X10_plays_b73 r2 r3 r4 l3 = some t0 → va_P D vwCl [(h0, .inr (10, [.ref h2, .ref h3, .ref h1, .ref kthis_lengths, .ref kthis_flows, .int v0_phases, .ref kthis_now, .ref kthis_trial, .int v0_has, .int v0_thrown])), (h1, .inl (cI, 2, .inl r1)), (h2, .inl (cI, 15, .inl r2)), (h3, .inl (cI, 12, .inl r3)), (h4, .inl (cJ, 760, .inr (.inl r4)))] H → va_D A [(h0, .inr (10, [.ref h2, .ref h3, .ref h1, .ref kthis_lengths, .ref kthis_flows, .int v0_phases, .ref kthis_now, .ref kthis_trial, .int v0_has, .int v0_thrown])), (h1, .inl (cI, 2, .inl r1)), (h2, .inl (cI, 15, .inl r2)), (h3, .inl (cI, 12, .inl r3)), (h4, .inl (cJ, 760, .inr (.inl r4)))] → va_S A s.heap H locs → lv_has ls 7 [(0, .ref h0), (1, .ref h4), (3, .long l3)] → W p l e rm_X10_plays s m args below meth c H locs 0 0 (MQ below (QW none D [(h0, .inr (10, [.ref h2, .ref h3, .ref h1, .ref kthis_lengths, .ref kthis_flows, .int v0_phases, .ref kthis_now, .ref kthis_trial, .int v0_has, .int v0_thrown])), (h1, .inl (cI, 2, .inl r1)), (h2, .inl (cI, 15, .inl r2)), (h3, .inl (cI, 12, .inl r3)), (h4, .inl (cJ, 760, .inr (.inl t0)))] A) args s 0 0 A) (F0 m 73 ls []) := by
  have hx := S.1
  have hb := S.2.1
  intro r4 l3 H locs ls h hP hD hS hl
  refine lv_aload_n hx hb dX10_plays_73 rfl (lv_at hl 1 rfl) ?_
  refine lv_iconst (v := 2) hx hb dX10_plays_74 li_2 ?_
  refine aldJ (k := 2) (q0 := 4) S hK hP rfl vl_2_760 tn_2 dX10_plays_75 ?_
  refine lv_ldc2 (v := 2) hx hb S.2.2.2.1 (S.2.2.2.2 _ tb1082) dX10_plays_76 ?_
  refine lc_eq (tgt := 84) hx hb dX10_plays_79 dX10_plays_80 (by decide) (fun c1 => ?_) (fun c1 => ?_)
  · have h := iteP c1 h
    refine lv_lload_n hx hb dX10_plays_84 rfl (lv_at hl 2 rfl) ?_
    refine lv_lconst (v := 0) hx hb dX10_plays_85 rfl ?_
    refine lc_ne (tgt := 154) hx hb dX10_plays_86 dX10_plays_87 (by decide) (fun c2 => ?_) (fun c2 => ?_)
    · have h := iteN c2 h
      refine lv_aload_n hx hb dX10_plays_154 rfl (lv_at hl 0 rfl) ?_
      refine gf_X10_7 (v := .ref h2) S hK hP 0 rfl rfl dX10_plays_155 ?_
      refine lv_bipush (v := 13) hx hb dX10_plays_158 lb_13 ?_
      refine aldI (k := 13) (q0 := 2) S hK hP rfl vl_13_15 tn_13 dX10_plays_160 ?_
      refine lv_if_le (tgt := 220) hx hb dX10_plays_161 (by decide) (fun c3 => ?_) (fun c3 => ?_)
      · have h := iteP c3 h
        exact k_X10_plays_b220 S hr hlk hK hA r4 l3 _ _ _ h (hP.sub [0, 1, 2, 3, 4] rfl) (hD.sub [0, 1, 2, 3, 4] (by decide) rfl) hS (lv_sub hl [0, 1, 2] rfl)
      · have h := iteN c3 h
        refine lv_aload_n hx hb dX10_plays_164 rfl (lv_at hl 1 rfl) ?_
        refine lv_iconst (v := 0) hx hb dX10_plays_165 li_0 ?_
        refine aldJ (k := 0) (q0 := 4) S hK hP rfl vl_0_760 tn_0 dX10_plays_166 ?_
        refine lv_aload_n hx hb dX10_plays_167 rfl (lv_at hl 0 rfl) ?_
        refine gf_X10_7 (v := .ref h2) S hK hP 0 rfl rfl dX10_plays_168 ?_
        refine lv_bipush (v := 13) hx hb dX10_plays_171 lb_13 ?_
        refine aldI (k := 13) (q0 := 2) S hK hP rfl vl_13_15 tn_13 dX10_plays_173 ?_
        refine lv_i2l hx hb dX10_plays_174 rfl ?_
        refine lv_ladd hx hb dX10_plays_175 ?_
        refine lv_aload_n hx hb dX10_plays_176 rfl (lv_at hl 1 rfl) ?_
        refine lv_iconst (v := 1) hx hb dX10_plays_177 li_1 ?_
        refine aldJ (k := 1) (q0 := 4) S hK hP rfl vl_1_760 tn_1 dX10_plays_178 ?_
        refine lv_lsub hx hb dX10_plays_179 ?_
        refine lv_aload_n hx hb dX10_plays_180 rfl (lv_at hl 0 rfl) ?_
        refine gf_X10_7 (v := .ref h2) S hK hP 0 rfl rfl dX10_plays_181 ?_
        refine lv_bipush (v := 14) hx hb dX10_plays_184 lb_14 ?_
        refine aldI (k := 14) (q0 := 2) S hK hP rfl vl_14_15 tn_14 dX10_plays_186 ?_
        refine lv_i2l hx hb dX10_plays_187 rfl ?_
        refine lc_le (tgt := 220) hx hb dX10_plays_188 dX10_plays_189 (by decide) (fun c4 => ?_) (fun c4 => ?_)
        · have h := iteP c4 h
          exact k_X10_plays_b220 S hr hlk hK hA r4 l3 _ _ _ h (hP.sub [0, 1, 2, 3, 4] rfl) (hD.sub [0, 1, 2, 3, 4] (by decide) rfl) hS (lv_sub hl [0, 1, 2] rfl)
        · have h := iteN c4 h
          refine lv_lload_n hx hb dX10_plays_192 rfl (lv_at hl 2 rfl) ?_
          refine lv_aload_n hx hb dX10_plays_193 rfl (lv_at hl 0 rfl) ?_
          refine gf_X10_7 (v := .ref h2) S hK hP 0 rfl rfl dX10_plays_194 ?_
          refine lv_iconst (v := 5) hx hb dX10_plays_197 li_5 ?_
          refine aldI (k := 5) (q0 := 2) S hK hP rfl vl_5_15 tn_5 dX10_plays_198 ?_
          refine lv_i2l hx hb dX10_plays_199 rfl ?_
          refine lc_lt (tgt := 220) hx hb dX10_plays_200 dX10_plays_201 (by decide) (fun c5 => ?_) (fun c5 => ?_)
          · have h := iteP c5 h
            exact k_X10_plays_b220 S hr hlk hK hA r4 l3 _ _ _ h (hP.sub [0, 1, 2, 3, 4] rfl) (hD.sub [0, 1, 2, 3, 4] (by decide) rfl) hS (lv_sub hl [0, 1, 2] rfl)
          · have h := iteN c5 h
            refine lv_aload_n hx hb dX10_plays_204 rfl (lv_at hl 1 rfl) ?_
            refine lv_iconst (v := 0) hx hb dX10_plays_205 li_0 ?_
            refine aldJ (k := 0) (q0 := 4) S hK hP rfl vl_0_760 tn_0 dX10_plays_206 ?_
            refine lv_ldc2 (v := 10) hx hb S.2.2.2.1 (S.2.2.2.2 _ tb1112) dX10_plays_207 ?_
            refine remw_l hx hb dX10_plays_210 nzl_10 ?_
            refine lv_lconst (v := 0) hx hb dX10_plays_211 rfl ?_
            refine lc_ne (tgt := 220) hx hb dX10_plays_212 dX10_plays_213 (by decide) (fun c6 => ?_) (fun c6 => ?_)
            · have h := iteN c6 h
              exact k_X10_plays_b220 S hr hlk hK hA r4 l3 _ _ _ h (hP.sub [0, 1, 2, 3, 4] rfl) (hD.sub [0, 1, 2, 3, 4] (by decide) rfl) hS (lv_sub hl [0, 1, 2] rfl)
            · have h := iteP c6 h
              refine lv_iconst (v := 1) hx hb dX10_plays_216 li_1 ?_
              refine lv_goto (tgt := 221) hx hb dX10_plays_217 (by decide) ?_
              exact k_X10_plays_b221 S hr hlk hK hA r4 l3 1 _ _ _ h (hP.sub [0, 1, 2, 3, 4] rfl) (hD.sub [0, 1, 2, 3, 4] (by decide) rfl) hS (lv_sub hl [0, 1, 2] rfl)
    · have h := iteP c2 h
      refine lv_aload_n hx hb dX10_plays_90 rfl (lv_at hl 1 rfl) ?_
      refine lv_iconst (v := 1) hx hb dX10_plays_91 li_1 ?_
      refine aldJ (k := 1) (q0 := 4) S hK hP rfl vl_1_760 tn_1 dX10_plays_92 ?_
      refine lv_aload_n hx hb dX10_plays_93 rfl (lv_at hl 0 rfl) ?_
      refine gf_X10_7 (v := .ref h2) S hK hP 0 rfl rfl dX10_plays_94 ?_
      refine lv_iconst (v := 1) hx hb dX10_plays_97 li_1 ?_
      refine aldI (k := 1) (q0 := 2) S hK hP rfl vl_1_15 tn_1 dX10_plays_98 ?_
      refine lv_i2l hx hb dX10_plays_99 rfl ?_
      refine lv_aload_n hx hb dX10_plays_100 rfl (lv_at hl 0 rfl) ?_
      refine gf_X10_7 (v := .ref h2) S hK hP 0 rfl rfl dX10_plays_101 ?_
      refine lv_iconst (v := 0) hx hb dX10_plays_104 li_0 ?_
      refine aldI (k := 0) (q0 := 2) S hK hP rfl vl_0_15 tn_0 dX10_plays_105 ?_
      refine lv_i2l hx hb dX10_plays_106 rfl ?_
      refine lv_lmul hx hb dX10_plays_107 ?_
      refine lc_ne (tgt := 116) hx hb dX10_plays_108 dX10_plays_109 (by decide) (fun c7 => ?_) (fun c7 => ?_)
      · have h := iteN c7 h
        refine lv_iconst (v := 0) hx hb dX10_plays_116 li_0 ?_
        exact k_X10_plays_b117 S hr hlk hK hA r4 0 _ _ _ h (hP.sub [0, 1, 2, 3, 4] rfl) (hD.sub [0, 1, 2, 3, 4] (by decide) rfl) hS (lv_sub hl [1] rfl)
      · have h := iteP c7 h
        refine lv_iconst (v := 1) hx hb dX10_plays_112 li_1 ?_
        refine lv_goto (tgt := 117) hx hb dX10_plays_113 (by decide) ?_
        exact k_X10_plays_b117 S hr hlk hK hA r4 1 _ _ _ h (hP.sub [0, 1, 2, 3, 4] rfl) (hD.sub [0, 1, 2, 3, 4] (by decide) rfl) hS (lv_sub hl [1] rfl)
  · have h := iteN c1 h
    have h := Option.some.inj h
    subst h
    exact wRv S hr hlk (hP.sub [0, 1, 2, 3, 4] rfl) (hD.sub [0, 1, 2, 3, 4] (by decide) rfl) hS dX10_plays_83
set_option maxHeartbeats 4000000 in
set_option maxRecDepth 100000 in
theorem k_X10_plays_b72 {p : Program} {l : Launch} {e : Env} {s : State} {m : MethodId} {args : Array Value} {below : List Frame} {meth : Method} {c : Code} {D : va_G} {cI cJ cC : ClassId} {h0 h1 h2 h3 h4 kthis_lengths kthis_flows kthis_now kthis_trial : Nat} {v0_phases v0_has v0_thrown : Int32} {r1 r2 r3 : Nat → Int32} {t0 : Nat → Int64}{A : Nat → Prop} (S : CallFix p m c cX10_plays 7 s args TB RX10) (hr : meth.sig.returnType = none) (hlk : meth.locks = false) (hK : va_K D vwCl (ty3 cI cJ cC) s) (hA : ∀ q : Nat, s.heap.size ≤ q → A q) : ∀ (r4 : Nat → Int64) (l3 : Int64) (s1 : Int32) (s2 : Int64) (H : Heap) (locs : List Loc) (ls : Array Slot), f_X10_plays_b72 r2 r3 r4 l3 s1 s2 = some t0 → va_P D vwCl [(h0, .inr (10, [.ref h2, .ref h3, .ref h1, .ref kthis_lengths, .ref kthis_flows, .int v0_phases, .ref kthis_now, .ref kthis_trial, .int v0_has, .int v0_thrown])), (h1, .inl (cI, 2, .inl r1)), (h2, .inl (cI, 15, .inl r2)), (h3, .inl (cI, 12, .inl r3)), (h4, .inl (cJ, 760, .inr (.inl r4)))] H → va_D A [(h0, .inr (10, [.ref h2, .ref h3, .ref h1, .ref kthis_lengths, .ref kthis_flows, .int v0_phases, .ref kthis_now, .ref kthis_trial, .int v0_has, .int v0_thrown])), (h1, .inl (cI, 2, .inl r1)), (h2, .inl (cI, 15, .inl r2)), (h3, .inl (cI, 12, .inl r3)), (h4, .inl (cJ, 760, .inr (.inl r4)))] → va_S A s.heap H locs → lv_has ls 7 [(0, .ref h0), (1, .ref h4), (3, .long l3)] → W p l e rm_X10_plays s m args below meth c H locs 0 0 (MQ below (QW none D [(h0, .inr (10, [.ref h2, .ref h3, .ref h1, .ref kthis_lengths, .ref kthis_flows, .int v0_phases, .ref kthis_now, .ref kthis_trial, .int v0_has, .int v0_thrown])), (h1, .inl (cI, 2, .inl r1)), (h2, .inl (cI, 15, .inl r2)), (h3, .inl (cI, 12, .inl r3)), (h4, .inl (cJ, 760, .inr (.inl t0)))] A) args s 0 0 A) (F0 m 72 ls [.long s2, .int s1, .ref h4]) := by
  have hx := S.1
  have hb := S.2.1
  intro r4 l3 s1 s2 H locs ls h hP hD hS hl
  obtain ⟨g1, h⟩ := grd_eq h
  refine astJ (k := s1.toNatClampNeg) (q0 := 4) S hK hP hD hS rfl (vin_in g1) rfl dX10_plays_72 (fun H locs hP hD hS => ?_)
  have hP : va_P D vwCl [(h0, .inr (10, [.ref h2, .ref h3, .ref h1, .ref kthis_lengths, .ref kthis_flows, .int v0_phases, .ref kthis_now, .ref kthis_trial, .int v0_has, .int v0_thrown])), (h1, .inl (cI, 2, .inl r1)), (h2, .inl (cI, 15, .inl r2)), (h3, .inl (cI, 12, .inl r3)), (h4, .inl (cJ, 760, .inr (.inl (vp_updL r4 s1.toNatClampNeg s2))))] H := hP
  have hD : va_D A [(h0, .inr (10, [.ref h2, .ref h3, .ref h1, .ref kthis_lengths, .ref kthis_flows, .int v0_phases, .ref kthis_now, .ref kthis_trial, .int v0_has, .int v0_thrown])), (h1, .inl (cI, 2, .inl r1)), (h2, .inl (cI, 15, .inl r2)), (h3, .inl (cI, 12, .inl r3)), (h4, .inl (cJ, 760, .inr (.inl (vp_updL r4 s1.toNatClampNeg s2))))] := hD
  obtain ⟨u2, e_u2⟩ : ∃ z, z = vp_updL r4 s1.toNatClampNeg s2 := ⟨_, rfl⟩
  rw [← e_u2] at hP hD
  have h := bnd_eq e_u2.symm h
  exact k_X10_plays_b73 S hr hlk hK hA u2 l3 _ _ _ h (hP.sub [0, 1, 2, 3, 4] rfl) (hD.sub [0, 1, 2, 3, 4] (by decide) rfl) hS (lv_sub hl [0, 1, 2] rfl)
set_option maxHeartbeats 4000000 in
set_option maxRecDepth 100000 in
theorem k_X10_plays_b63 {p : Program} {l : Launch} {e : Env} {s : State} {m : MethodId} {args : Array Value} {below : List Frame} {meth : Method} {c : Code} {D : va_G} {cI cJ cC : ClassId} {h0 h1 h2 h3 h4 kthis_lengths kthis_flows kthis_now kthis_trial : Nat} {v0_phases v0_has v0_thrown : Int32} {r1 r2 r3 : Nat → Int32} {t0 : Nat → Int64}{A : Nat → Prop} (S : CallFix p m c cX10_plays 7 s args TB RX10) (hr : meth.sig.returnType = none) (hlk : meth.locks = false) (hK : va_K D vwCl (ty3 cI cJ cC) s) (hA : ∀ q : Nat, s.heap.size ≤ q → A q) : ∀ (r4 : Nat → Int64) (l3 : Int64) (s1 : Int32) (H : Heap) (locs : List Loc) (ls : Array Slot), f_X10_plays_b63 r2 r3 r4 l3 s1 = some t0 → va_P D vwCl [(h0, .inr (10, [.ref h2, .ref h3, .ref h1, .ref kthis_lengths, .ref kthis_flows, .int v0_phases, .ref kthis_now, .ref kthis_trial, .int v0_has, .int v0_thrown])), (h1, .inl (cI, 2, .inl r1)), (h2, .inl (cI, 15, .inl r2)), (h3, .inl (cI, 12, .inl r3)), (h4, .inl (cJ, 760, .inr (.inl r4)))] H → va_D A [(h0, .inr (10, [.ref h2, .ref h3, .ref h1, .ref kthis_lengths, .ref kthis_flows, .int v0_phases, .ref kthis_now, .ref kthis_trial, .int v0_has, .int v0_thrown])), (h1, .inl (cI, 2, .inl r1)), (h2, .inl (cI, 15, .inl r2)), (h3, .inl (cI, 12, .inl r3)), (h4, .inl (cJ, 760, .inr (.inl r4)))] → va_S A s.heap H locs → lv_has ls 7 [(0, .ref h0), (1, .ref h4), (3, .long l3)] → W p l e rm_X10_plays s m args below meth c H locs 0 0 (MQ below (QW none D [(h0, .inr (10, [.ref h2, .ref h3, .ref h1, .ref kthis_lengths, .ref kthis_flows, .int v0_phases, .ref kthis_now, .ref kthis_trial, .int v0_has, .int v0_thrown])), (h1, .inl (cI, 2, .inl r1)), (h2, .inl (cI, 15, .inl r2)), (h3, .inl (cI, 12, .inl r3)), (h4, .inl (cJ, 760, .inr (.inl t0)))] A) args s 0 0 A) (F0 m 63 ls [.int s1, .ref h4]) := by
  have hx := S.1
  have hb := S.2.1
  intro r4 l3 s1 H locs ls h hP hD hS hl
  refine lv_ldc2 (v := 2) hx hb S.2.2.2.1 (S.2.2.2.2 _ tb1082) dX10_plays_63 ?_
  refine lv_goto (tgt := 72) hx hb dX10_plays_66 (by decide) ?_
  exact k_X10_plays_b72 S hr hlk hK hA r4 l3 s1 2 _ _ _ h (hP.sub [0, 1, 2, 3, 4] rfl) (hD.sub [0, 1, 2, 3, 4] (by decide) rfl) hS (lv_sub hl [0, 1, 2] rfl)
set_option maxHeartbeats 4000000 in
set_option maxRecDepth 100000 in
theorem k_X10_plays_b44 {p : Program} {l : Launch} {e : Env} {s : State} {m : MethodId} {args : Array Value} {below : List Frame} {meth : Method} {c : Code} {D : va_G} {cI cJ cC : ClassId} {h0 h1 h2 h3 h4 kthis_lengths kthis_flows kthis_now kthis_trial : Nat} {v0_phases v0_has v0_thrown : Int32} {r1 r2 r3 : Nat → Int32} {t0 : Nat → Int64}{A : Nat → Prop} (S : CallFix p m c cX10_plays 7 s args TB RX10) (hr : meth.sig.returnType = none) (hlk : meth.locks = false) (hK : va_K D vwCl (ty3 cI cJ cC) s) (hA : ∀ q : Nat, s.heap.size ≤ q → A q) : ∀ (r4 : Nat → Int64) (l3 s0 : Int64) (H : Heap) (locs : List Loc) (ls : Array Slot), f_X10_plays_b44 r1 r2 r3 r4 l3 s0 = some t0 → va_P D vwCl [(h0, .inr (10, [.ref h2, .ref h3, .ref h1, .ref kthis_lengths, .ref kthis_flows, .int v0_phases, .ref kthis_now, .ref kthis_trial, .int v0_has, .int v0_thrown])), (h1, .inl (cI, 2, .inl r1)), (h2, .inl (cI, 15, .inl r2)), (h3, .inl (cI, 12, .inl r3)), (h4, .inl (cJ, 760, .inr (.inl r4)))] H → va_D A [(h0, .inr (10, [.ref h2, .ref h3, .ref h1, .ref kthis_lengths, .ref kthis_flows, .int v0_phases, .ref kthis_now, .ref kthis_trial, .int v0_has, .int v0_thrown])), (h1, .inl (cI, 2, .inl r1)), (h2, .inl (cI, 15, .inl r2)), (h3, .inl (cI, 12, .inl r3)), (h4, .inl (cJ, 760, .inr (.inl r4)))] → va_S A s.heap H locs → lv_has ls 7 [(0, .ref h0), (1, .ref h4), (3, .long l3)] → W p l e rm_X10_plays s m args below meth c H locs 0 0 (MQ below (QW none D [(h0, .inr (10, [.ref h2, .ref h3, .ref h1, .ref kthis_lengths, .ref kthis_flows, .int v0_phases, .ref kthis_now, .ref kthis_trial, .int v0_has, .int v0_thrown])), (h1, .inl (cI, 2, .inl r1)), (h2, .inl (cI, 15, .inl r2)), (h3, .inl (cI, 12, .inl r3)), (h4, .inl (cJ, 760, .inr (.inl t0)))] A) args s 0 0 A) (F0 m 44 ls [.long s0]) := by
  have hx := S.1
  have hb := S.2.1
  intro r4 l3 s0 H locs ls h hP hD hS hl
  refine lv_lstore (lv' := [(5, .long s0), (0, .ref h0), (1, .ref h4), (3, .long l3)]) hx hb dX10_plays_44 hl (by decide) rfl (fun ls hl => ?_)
  refine lv_aload_n hx hb dX10_plays_46 rfl (lv_at hl 2 rfl) ?_
  refine lv_iconst (v := 2) hx hb dX10_plays_47 li_2 ?_
  refine lv_lload_n hx hb dX10_plays_48 rfl (lv_at hl 3 rfl) ?_
  refine lv_lload hx hb dX10_plays_49 (lv_at hl 0 rfl) ?_
  refine lc_ge (tgt := 63) hx hb dX10_plays_51 dX10_plays_52 (by decide) (fun c1 => ?_) (fun c1 => ?_)
  · have h := iteP c1 h
    exact k_X10_plays_b63 S hr hlk hK hA r4 l3 2 _ _ _ h (hP.sub [0, 1, 2, 3, 4] rfl) (hD.sub [0, 1, 2, 3, 4] (by decide) rfl) hS (lv_sub hl [1, 2, 3] rfl)
  · have h := iteN c1 h
    refine lv_aload_n hx hb dX10_plays_55 rfl (lv_at hl 1 rfl) ?_
    refine lv_aload_n hx hb dX10_plays_56 rfl (lv_at hl 2 rfl) ?_
    refine rdV (pc1 := 60) (rest := [.int 2, .ref h4]) (st1 := [.int (f_X10_hasAll r1 r2 r4), .int 2, .ref h4]) S (c_X10_hasAll l D cI cJ cC h0 h1 h2 h4 h3 kthis_lengths kthis_flows kthis_now kthis_trial v0_phases v0_has v0_thrown r1 r2 r4  _ rfl) (cw_X10_127 S.2.2.2.2 ⟨Nat.le_of_ble_eq_true rfl, Nat.le_of_ble_eq_true rfl⟩) hK (hP.sub [0, 1, 2, 4] rfl) rfl rfl rfl rfl hl.1 rfl (Nat.le_of_ble_eq_true rfl) ⟨Nat.zero_le _, Nat.zero_le _⟩ rfl rfl dX10_plays_57 ?_
    refine lv_if_eq (tgt := 69) hx hb dX10_plays_60 (by decide) (fun c2 => ?_) (fun c2 => ?_)
    · have h := iteP c2 h
      refine lv_aload_n hx hb dX10_plays_69 rfl (lv_at hl 2 rfl) ?_
      refine lv_iconst (v := 2) hx hb dX10_plays_70 li_2 ?_
      refine aldJ (k := 2) (q0 := 4) S hK hP rfl vl_2_760 tn_2 dX10_plays_71 ?_
      exact k_X10_plays_b72 S hr hlk hK hA r4 l3 2 (r4 2) _ _ _ h (hP.sub [0, 1, 2, 3, 4] rfl) (hD.sub [0, 1, 2, 3, 4] (by decide) rfl) hS (lv_sub hl [1, 2, 3] rfl)
    · have h := iteN c2 h
      exact k_X10_plays_b63 S hr hlk hK hA r4 l3 2 _ _ _ h (hP.sub [0, 1, 2, 3, 4] rfl) (hD.sub [0, 1, 2, 3, 4] (by decide) rfl) hS (lv_sub hl [1, 2, 3] rfl)
set_option maxHeartbeats 4000000 in
set_option maxRecDepth 100000 in
theorem k_X10_plays_b24 {p : Program} {l : Launch} {e : Env} {s : State} {m : MethodId} {args : Array Value} {below : List Frame} {meth : Method} {c : Code} {D : va_G} {cI cJ cC : ClassId} {h0 h1 h2 h3 h4 kthis_lengths kthis_flows kthis_now kthis_trial : Nat} {v0_phases v0_has v0_thrown : Int32} {r1 r2 r3 : Nat → Int32} {t0 : Nat → Int64}{A : Nat → Prop} (S : CallFix p m c cX10_plays 7 s args TB RX10) (hr : meth.sig.returnType = none) (hlk : meth.locks = false) (hK : va_K D vwCl (ty3 cI cJ cC) s) (hA : ∀ q : Nat, s.heap.size ≤ q → A q) : ∀ (r4 : Nat → Int64) (l2 : Int32) (l3 : Int64) (H : Heap) (locs : List Loc) (ls : Array Slot), f_X10_plays_b24 r1 r2 r3 r4 l2 l3 = some t0 → va_P D vwCl [(h0, .inr (10, [.ref h2, .ref h3, .ref h1, .ref kthis_lengths, .ref kthis_flows, .int v0_phases, .ref kthis_now, .ref kthis_trial, .int v0_has, .int v0_thrown])), (h1, .inl (cI, 2, .inl r1)), (h2, .inl (cI, 15, .inl r2)), (h3, .inl (cI, 12, .inl r3)), (h4, .inl (cJ, 760, .inr (.inl r4)))] H → va_D A [(h0, .inr (10, [.ref h2, .ref h3, .ref h1, .ref kthis_lengths, .ref kthis_flows, .int v0_phases, .ref kthis_now, .ref kthis_trial, .int v0_has, .int v0_thrown])), (h1, .inl (cI, 2, .inl r1)), (h2, .inl (cI, 15, .inl r2)), (h3, .inl (cI, 12, .inl r3)), (h4, .inl (cJ, 760, .inr (.inl r4)))] → va_S A s.heap H locs → lv_has ls 7 [(0, .ref h0), (1, .ref h4), (2, .int l2), (3, .long l3)] → W p l e rm_X10_plays s m args below meth c H locs 0 0 (MQ below (QW none D [(h0, .inr (10, [.ref h2, .ref h3, .ref h1, .ref kthis_lengths, .ref kthis_flows, .int v0_phases, .ref kthis_now, .ref kthis_trial, .int v0_has, .int v0_thrown])), (h1, .inl (cI, 2, .inl r1)), (h2, .inl (cI, 15, .inl r2)), (h3, .inl (cI, 12, .inl r3)), (h4, .inl (cJ, 760, .inr (.inl t0)))] A) args s 0 0 A) (F0 m 24 ls []) := by
  have hx := S.1
  have hb := S.2.1
  intro r4 l2 l3 H locs ls h hP hD hS hl
  refine lv_aload_n hx hb dX10_plays_24 rfl (lv_at hl 1 rfl) ?_
  refine lv_iconst (v := 2) hx hb dX10_plays_25 li_2 ?_
  refine aldJ (k := 2) (q0 := 4) S hK hP rfl vl_2_760 tn_2 dX10_plays_26 ?_
  refine lv_lconst (v := 1) hx hb dX10_plays_27 rfl ?_
  refine lc_ne (tgt := 37) hx hb dX10_plays_28 dX10_plays_29 (by decide) (fun c1 => ?_) (fun c1 => ?_)
  · have h := iteN c1 h
    refine lv_aload_n hx hb dX10_plays_37 rfl (lv_at hl 0 rfl) ?_
    refine gf_X10_7 (v := .ref h2) S hK hP 0 rfl rfl dX10_plays_38 ?_
    refine lv_iconst (v := 4) hx hb dX10_plays_41 li_4 ?_
    refine aldI (k := 4) (q0 := 2) S hK hP rfl vl_4_15 tn_4 dX10_plays_42 ?_
    refine lv_i2l hx hb dX10_plays_43 rfl ?_
    exact k_X10_plays_b44 S hr hlk hK hA r4 l3 ((r2 4).toInt64) _ _ _ h (hP.sub [0, 1, 2, 3, 4] rfl) (hD.sub [0, 1, 2, 3, 4] (by decide) rfl) hS (lv_sub hl [0, 1, 3] rfl)
  · have h := iteP c1 h
    refine lv_iload_n hx hb dX10_plays_32 rfl (lv_at hl 2 rfl) ?_
    refine lv_i2l hx hb dX10_plays_33 rfl ?_
    refine lv_goto (tgt := 44) hx hb dX10_plays_34 (by decide) ?_
    exact k_X10_plays_b44 S hr hlk hK hA r4 l3 l2.toInt64 _ _ _ h (hP.sub [0, 1, 2, 3, 4] rfl) (hD.sub [0, 1, 2, 3, 4] (by decide) rfl) hS (lv_sub hl [0, 1, 3] rfl)
set_option maxHeartbeats 4000000 in
set_option maxRecDepth 100000 in
theorem c_X10_plays (l : Launch) (D : va_G) (cI cJ cC : ClassId) (h0 h1 h2 h3 h4 kthis_lengths kthis_flows kthis_now kthis_trial : Nat) (v0_phases v0_has v0_thrown : Int32) (r1 r2 r3 : Nat → Int32) (r4 : Nat → Int64) (sz : Nat) (p1 : Int32) (t0 : Nat → Int64) (h : f_X10_plays r1 r2 r3 r4 p1 = some t0) : Met l yX10_plays (Cond.code yX10_plays cX10_plays 7 none :: TB) rm_X10_plays (PreW D cI cJ cC [(h0, .inr (10, [.ref h2, .ref h3, .ref h1, .ref kthis_lengths, .ref kthis_flows, .int v0_phases, .ref kthis_now, .ref kthis_trial, .int v0_has, .int v0_thrown])), (h1, .inl (cI, 2, .inl r1)), (h2, .inl (cI, 15, .inl r2)), (h3, .inl (cI, 12, .inl r3)), (h4, .inl (cJ, 760, .inr (.inl r4)))] sz [.ref h0, .ref h4, .int p1]) (QW none D [(h0, .inr (10, [.ref h2, .ref h3, .ref h1, .ref kthis_lengths, .ref kthis_flows, .int v0_phases, .ref kthis_now, .ref kthis_trial, .int v0_has, .int v0_thrown])), (h1, .inl (cI, 2, .inl r1)), (h2, .inl (cI, 15, .inl r2)), (h3, .inl (cI, 12, .inl r3)), (h4, .inl (cJ, 760, .inr (.inl t0)))] (va_A [(h0, .inr (10, [.ref h2, .ref h3, .ref h1, .ref kthis_lengths, .ref kthis_flows, .int v0_phases, .ref kthis_now, .ref kthis_trial, .int v0_has, .int v0_thrown])), (h1, .inl (cI, 2, .inl r1)), (h2, .inl (cI, 15, .inl r2)), (h3, .inl (cI, 12, .inl r3)), (h4, .inl (cJ, 760, .inr (.inl r4)))] sz)) 0 0 (va_A [(h0, .inr (10, [.ref h2, .ref h3, .ref h1, .ref kthis_lengths, .ref kthis_flows, .int v0_phases, .ref kthis_now, .ref kthis_trial, .int v0_has, .int v0_thrown])), (h1, .inl (cI, 2, .inl r1)), (h2, .inl (cI, 15, .inl r2)), (h3, .inl (cI, 12, .inl r3)), (h4, .inl (cJ, 760, .inr (.inl r4)))] sz) := by
  refine metW (own := RX10) (by decide) rfl (Nat.le_of_ble_eq_true rfl) ?_
  intro p e s m below meth c S hr hlk hP hK A hAe hD hA hS ls hl
  clear hAe
  have hx := S.1
  have hb := S.2.1
  have hl : lv_has ls 7 [(0, .ref h0), (1, .ref h4), (2, .int p1)] := hl
  refine lv_aload_n hx hb dX10_plays_0 rfl (lv_at hl 0 rfl) ?_
  refine lv_aload_n hx hb dX10_plays_1 rfl (lv_at hl 1 rfl) ?_
  obtain ⟨z1, e_z1, h⟩ := obnd_eq h
  refine rdV (pc1 := 5) (rest := []) (st1 := [.long z1]) S (c_X10_bufferIn l D cI cJ cC h0 h1 h2 h4 h3 kthis_lengths kthis_flows kthis_now kthis_trial v0_phases v0_has v0_thrown r1 r2 r4  z1 e_z1) (cw_X10_124 S.2.2.2.2 ⟨Nat.le_of_ble_eq_true rfl, Nat.le_of_ble_eq_true rfl⟩) hK (hP.sub [0, 1, 2, 4] rfl) rfl rfl rfl rfl hl.1 rfl (Nat.le_of_ble_eq_true rfl) ⟨Nat.zero_le _, Nat.zero_le _⟩ rfl rfl dX10_plays_2 ?_
  refine lv_lstore_n (lv' := [(3, .long z1), (0, .ref h0), (1, .ref h4), (2, .int p1)]) hx hb dX10_plays_5 rfl hl (by decide) rfl (fun ls hl => ?_)
  refine lv_aload_n hx hb dX10_plays_6 rfl (lv_at hl 2 rfl) ?_
  refine lv_iconst (v := 2) hx hb dX10_plays_7 li_2 ?_
  refine aldJ (k := 2) (q0 := 4) S hK hP rfl vl_2_760 tn_2 dX10_plays_8 ?_
  refine lv_lconst (v := 1) hx hb dX10_plays_9 rfl ?_
  refine lc_eq (tgt := 24) hx hb dX10_plays_10 dX10_plays_11 (by decide) (fun c2 => ?_) (fun c2 => ?_)
  · have h := iteP c2 h
    exact k_X10_plays_b24 S hr hlk hK hA r4 p1 z1 _ _ _ h (hP.sub [0, 1, 2, 3, 4] rfl) (hD.sub [0, 1, 2, 3, 4] (by decide) rfl) hS (lv_sub hl [1, 2, 3, 0] rfl)
  · have h := iteN c2 h
    refine lv_aload_n hx hb dX10_plays_14 rfl (lv_at hl 2 rfl) ?_
    refine lv_iconst (v := 2) hx hb dX10_plays_15 li_2 ?_
    refine aldJ (k := 2) (q0 := 4) S hK hP rfl vl_2_760 tn_2 dX10_plays_16 ?_
    refine lv_ldc2 (v := 3) hx hb S.2.2.2.1 (S.2.2.2.2 _ tb1047) dX10_plays_17 ?_
    refine lc_ne (tgt := 73) hx hb dX10_plays_20 dX10_plays_21 (by decide) (fun c3 => ?_) (fun c3 => ?_)
    · have h := iteN c3 h
      exact k_X10_plays_b73 S hr hlk hK hA r4 z1 _ _ _ h (hP.sub [0, 1, 2, 3, 4] rfl) (hD.sub [0, 1, 2, 3, 4] (by decide) rfl) hS (lv_sub hl [1, 2, 0] rfl)
    · have h := iteP c3 h
      exact k_X10_plays_b24 S hr hlk hK hA r4 p1 z1 _ _ _ h (hP.sub [0, 1, 2, 3, 4] rfl) (hD.sub [0, 1, 2, 3, 4] (by decide) rfl) hS (lv_sub hl [1, 2, 3, 0] rfl)
abbrev rm_X10_tells : Room := { frames := 0, cells := 0, slots := 0, locals := 0 }
theorem dX10_tells_0 : decode cX10_tells 0 = .ok (.aload_n 1, 1) := by decide +kernel
theorem dX10_tells_1 : decode cX10_tells 1 = .ok (.iconst 0, 1) := by decide +kernel
theorem dX10_tells_2 : decode cX10_tells 2 = .ok (.laload, 1) := by decide +kernel
theorem dX10_tells_3 : decode cX10_tells 3 = .ok (.ldc2_w 135, 3) := by decide +kernel
theorem dX10_tells_6 : decode cX10_tells 6 = .ok (.lrem, 1) := by decide +kernel
theorem dX10_tells_7 : decode cX10_tells 7 = .ok (.lconst 0, 1) := by decide +kernel
theorem dX10_tells_8 : decode cX10_tells 8 = .ok (.lcmp, 1) := by decide +kernel
theorem dX10_tells_9 : decode cX10_tells 9 = .ok (.ifCond .ne 14, 3) := by decide +kernel
theorem dX10_tells_12 : decode cX10_tells 12 = .ok (.aload_n 1, 1) := by decide +kernel
theorem dX10_tells_13 : decode cX10_tells 13 = .ok (.bipush 23, 2) := by decide +kernel
theorem dX10_tells_15 : decode cX10_tells 15 = .ok (.laload, 1) := by decide +kernel
theorem dX10_tells_16 : decode cX10_tells 16 = .ok (.ldc2_w 137, 3) := by decide +kernel
theorem dX10_tells_19 : decode cX10_tells 19 = .ok (.lcmp, 1) := by decide +kernel
theorem dX10_tells_20 : decode cX10_tells 20 = .ok (.ifCond .ne 4, 3) := by decide +kernel
theorem dX10_tells_23 : decode cX10_tells 23 = .ok (.return_, 1) := by decide +kernel
theorem dX10_tells_24 : decode cX10_tells 24 = .ok (.aload_n 1, 1) := by decide +kernel
theorem dX10_tells_25 : decode cX10_tells 25 = .ok (.iconst 2, 1) := by decide +kernel
theorem dX10_tells_26 : decode cX10_tells 26 = .ok (.laload, 1) := by decide +kernel
theorem dX10_tells_27 : decode cX10_tells 27 = .ok (.lstore_n 2, 1) := by decide +kernel
theorem dX10_tells_28 : decode cX10_tells 28 = .ok (.lload_n 2, 1) := by decide +kernel
theorem dX10_tells_29 : decode cX10_tells 29 = .ok (.lconst 1, 1) := by decide +kernel
theorem dX10_tells_30 : decode cX10_tells 30 = .ok (.lcmp, 1) := by decide +kernel
theorem dX10_tells_31 : decode cX10_tells 31 = .ok (.ifCond .ne 9, 3) := by decide +kernel
theorem dX10_tells_34 : decode cX10_tells 34 = .ok (.ldc2_w 139, 3) := by decide +kernel
theorem dX10_tells_37 : decode cX10_tells 37 = .ok (.goto 20, 3) := by decide +kernel
theorem dX10_tells_40 : decode cX10_tells 40 = .ok (.lload_n 2, 1) := by decide +kernel
theorem dX10_tells_41 : decode cX10_tells 41 = .ok (.ldc2_w 78, 3) := by decide +kernel
theorem dX10_tells_44 : decode cX10_tells 44 = .ok (.lcmp, 1) := by decide +kernel
theorem dX10_tells_45 : decode cX10_tells 45 = .ok (.ifCond .ne 9, 3) := by decide +kernel
theorem dX10_tells_48 : decode cX10_tells 48 = .ok (.ldc2_w 141, 3) := by decide +kernel
theorem dX10_tells_51 : decode cX10_tells 51 = .ok (.goto 6, 3) := by decide +kernel
theorem dX10_tells_54 : decode cX10_tells 54 = .ok (.ldc2_w 143, 3) := by decide +kernel
theorem dX10_tells_57 : decode cX10_tells 57 = .ok (.lstore 4, 2) := by decide +kernel
theorem dX10_tells_59 : decode cX10_tells 59 = .ok (.lload_n 2, 1) := by decide +kernel
theorem dX10_tells_60 : decode cX10_tells 60 = .ok (.ldc2_w 131, 3) := by decide +kernel
theorem dX10_tells_63 : decode cX10_tells 63 = .ok (.lcmp, 1) := by decide +kernel
theorem dX10_tells_64 : decode cX10_tells 64 = .ok (.ifCond .ne 28, 3) := by decide +kernel
theorem dX10_tells_67 : decode cX10_tells 67 = .ok (.ldc2_w 145, 3) := by decide +kernel
theorem dX10_tells_70 : decode cX10_tells 70 = .ok (.aload_n 1, 1) := by decide +kernel
theorem dX10_tells_71 : decode cX10_tells 71 = .ok (.bipush 50, 2) := by decide +kernel
theorem dX10_tells_73 : decode cX10_tells 73 = .ok (.aload_n 1, 1) := by decide +kernel
theorem dX10_tells_74 : decode cX10_tells 74 = .ok (.iconst 1, 1) := by decide +kernel
theorem dX10_tells_75 : decode cX10_tells 75 = .ok (.laload, 1) := by decide +kernel
theorem dX10_tells_76 : decode cX10_tells 76 = .ok (.lconst 1, 1) := by decide +kernel
theorem dX10_tells_77 : decode cX10_tells 77 = .ok (.lsub, 1) := by decide +kernel
theorem dX10_tells_78 : decode cX10_tells 78 = .ok (.aload_n 0, 1) := by decide +kernel
theorem dX10_tells_79 : decode cX10_tells 79 = .ok (.getfield 7, 3) := by decide +kernel
theorem dX10_tells_82 : decode cX10_tells 82 = .ok (.iconst 0, 1) := by decide +kernel
theorem dX10_tells_83 : decode cX10_tells 83 = .ok (.iaload, 1) := by decide +kernel
theorem dX10_tells_84 : decode cX10_tells 84 = .ok (.i2l, 1) := by decide +kernel
theorem dX10_tells_85 : decode cX10_tells 85 = .ok (.ldiv, 1) := by decide +kernel
theorem dX10_tells_86 : decode cX10_tells 86 = .ok (.l2i, 1) := by decide +kernel
theorem dX10_tells_87 : decode cX10_tells 87 = .ok (.iadd, 1) := by decide +kernel
theorem dX10_tells_88 : decode cX10_tells 88 = .ok (.laload, 1) := by decide +kernel
theorem dX10_tells_89 : decode cX10_tells 89 = .ok (.ladd, 1) := by decide +kernel
theorem dX10_tells_90 : decode cX10_tells 90 = .ok (.lstore 4, 2) := by decide +kernel
theorem dX10_tells_92 : decode cX10_tells 92 = .ok (.aload_n 1, 1) := by decide +kernel
theorem dX10_tells_93 : decode cX10_tells 93 = .ok (.sipush 450, 3) := by decide +kernel
theorem dX10_tells_96 : decode cX10_tells 96 = .ok (.aload_n 1, 1) := by decide +kernel
theorem dX10_tells_97 : decode cX10_tells 97 = .ok (.bipush 23, 2) := by decide +kernel
theorem dX10_tells_99 : decode cX10_tells 99 = .ok (.laload, 1) := by decide +kernel
theorem dX10_tells_100 : decode cX10_tells 100 = .ok (.l2i, 1) := by decide +kernel
theorem dX10_tells_101 : decode cX10_tells 101 = .ok (.iadd, 1) := by decide +kernel
theorem dX10_tells_102 : decode cX10_tells 102 = .ok (.lload 4, 2) := by decide +kernel
theorem dX10_tells_104 : decode cX10_tells 104 = .ok (.lastore, 1) := by decide +kernel
theorem dX10_tells_105 : decode cX10_tells 105 = .ok (.aload_n 1, 1) := by decide +kernel
theorem dX10_tells_106 : decode cX10_tells 106 = .ok (.bipush 23, 2) := by decide +kernel
theorem dX10_tells_108 : decode cX10_tells 108 = .ok (.dup2, 1) := by decide +kernel
theorem dX10_tells_109 : decode cX10_tells 109 = .ok (.laload, 1) := by decide +kernel
theorem dX10_tells_110 : decode cX10_tells 110 = .ok (.lconst 1, 1) := by decide +kernel
theorem dX10_tells_111 : decode cX10_tells 111 = .ok (.ladd, 1) := by decide +kernel
theorem dX10_tells_112 : decode cX10_tells 112 = .ok (.lastore, 1) := by decide +kernel
theorem dX10_tells_113 : decode cX10_tells 113 = .ok (.return_, 1) := by decide +kernel
def f_X10_tells_b57 (r1 : Nat → Int32) (r2 : Nat → Int64) (l2 s0 : Int64) : Option (Nat → Int64) :=
  if l2 = 2 then
    grd (nz64 ((r1 0).toInt64)) <|
    grd (vin (50 + ((((r2 1) - 1) / ((r1 0).toInt64)).toInt32)) 760) <|
    bnd (48 + (r2 (50 + ((((r2 1) - 1) / ((r1 0).toInt64)).toInt32)).toNatClampNeg)) fun (z7 : Int64) =>
    grd (vin (450 + ((r2 23).toInt32)) 760) <|
    bnd (vp_updL r2 (450 + ((r2 23).toInt32)).toNatClampNeg z7) fun (u9 : Nat → Int64) =>
    bnd (vp_updL u9 23 ((u9 23) + 1)) fun (u10 : Nat → Int64) =>
    some u10
  else
    grd (vin (450 + ((r2 23).toInt32)) 760) <|
    bnd (vp_updL r2 (450 + ((r2 23).toInt32)).toNatClampNeg s0) fun (u3 : Nat → Int64) =>
    bnd (vp_updL u3 23 ((u3 23) + 1)) fun (u4 : Nat → Int64) =>
    some u4
def f_X10_tells (r1 : Nat → Int32) (r2 : Nat → Int64) : Option (Nat → Int64) :=
  if (rm64 (r2 0) 1000) = 0 then
    if (r2 23) = 300 then
      some r2
    else
      if (r2 2) = 1 then
        f_X10_tells_b57 r1 r2 (r2 2) 115
      else
        if (r2 2) = 3 then
          f_X10_tells_b57 r1 r2 (r2 2) 45
        else
          f_X10_tells_b57 r1 r2 (r2 2) 101
  else
    some r2
set_option maxHeartbeats 4000000 in
set_option maxRecDepth 100000 in
theorem k_X10_tells_b57 {p : Program} {l : Launch} {e : Env} {s : State} {m : MethodId} {args : Array Value} {below : List Frame} {meth : Method} {c : Code} {D : va_G} {cI cJ cC : ClassId} {h0 h1 h2 kthis_rates kthis_ladder kthis_lengths kthis_flows kthis_now kthis_trial : Nat} {v0_phases v0_has v0_thrown : Int32} {r1 : Nat → Int32} {t0 : Nat → Int64}{A : Nat → Prop} (S : CallFix p m c cX10_tells 6 s args TB RX10) (hr : meth.sig.returnType = none) (hlk : meth.locks = false) (hK : va_K D vwCl (ty3 cI cJ cC) s) (hA : ∀ q : Nat, s.heap.size ≤ q → A q) : ∀ (r2 : Nat → Int64) (l2 s0 : Int64) (H : Heap) (locs : List Loc) (ls : Array Slot), f_X10_tells_b57 r1 r2 l2 s0 = some t0 → va_P D vwCl [(h0, .inr (10, [.ref h1, .ref kthis_rates, .ref kthis_ladder, .ref kthis_lengths, .ref kthis_flows, .int v0_phases, .ref kthis_now, .ref kthis_trial, .int v0_has, .int v0_thrown])), (h1, .inl (cI, 15, .inl r1)), (h2, .inl (cJ, 760, .inr (.inl r2)))] H → va_D A [(h0, .inr (10, [.ref h1, .ref kthis_rates, .ref kthis_ladder, .ref kthis_lengths, .ref kthis_flows, .int v0_phases, .ref kthis_now, .ref kthis_trial, .int v0_has, .int v0_thrown])), (h1, .inl (cI, 15, .inl r1)), (h2, .inl (cJ, 760, .inr (.inl r2)))] → va_S A s.heap H locs → lv_has ls 6 [(0, .ref h0), (1, .ref h2), (2, .long l2)] → W p l e rm_X10_tells s m args below meth c H locs 0 0 (MQ below (QW none D [(h0, .inr (10, [.ref h1, .ref kthis_rates, .ref kthis_ladder, .ref kthis_lengths, .ref kthis_flows, .int v0_phases, .ref kthis_now, .ref kthis_trial, .int v0_has, .int v0_thrown])), (h1, .inl (cI, 15, .inl r1)), (h2, .inl (cJ, 760, .inr (.inl t0)))] A) args s 0 0 A) (F0 m 57 ls [.long s0]) := by
  have hx := S.1
  have hb := S.2.1
  intro r2 l2 s0 H locs ls h hP hD hS hl
  refine lv_lstore (lv' := [(4, .long s0), (0, .ref h0), (1, .ref h2), (2, .long l2)]) hx hb dX10_tells_57 hl (by decide) rfl (fun ls hl => ?_)
  refine lv_lload_n hx hb dX10_tells_59 rfl (lv_at hl 3 rfl) ?_
  refine lv_ldc2 (v := 2) hx hb S.2.2.2.1 (S.2.2.2.2 _ tb1082) dX10_tells_60 ?_
  refine lc_ne (tgt := 92) hx hb dX10_tells_63 dX10_tells_64 (by decide) (fun c1 => ?_) (fun c1 => ?_)
  · have h := iteN c1 h
    refine lv_aload_n hx hb dX10_tells_92 rfl (lv_at hl 2 rfl) ?_
    refine lv_sipush (v := 450) hx hb dX10_tells_93 ls_450 ?_
    refine lv_aload_n hx hb dX10_tells_96 rfl (lv_at hl 2 rfl) ?_
    refine lv_bipush (v := 23) hx hb dX10_tells_97 lb_23 ?_
    refine aldJ (k := 23) (q0 := 2) S hK hP rfl vl_23_760 tn_23 dX10_tells_99 ?_
    refine lv_l2i hx hb dX10_tells_100 rfl ?_
    refine lv_iadd hx hb dX10_tells_101 ?_
    refine lv_lload hx hb dX10_tells_102 (lv_at hl 0 rfl) ?_
    obtain ⟨g2, h⟩ := grd_eq h
    refine astJ (k := (450 + ((r2 23).toInt32)).toNatClampNeg) (q0 := 2) S hK hP hD hS rfl (vin_in g2) rfl dX10_tells_104 (fun H locs hP hD hS => ?_)
    have hP : va_P D vwCl [(h0, .inr (10, [.ref h1, .ref kthis_rates, .ref kthis_ladder, .ref kthis_lengths, .ref kthis_flows, .int v0_phases, .ref kthis_now, .ref kthis_trial, .int v0_has, .int v0_thrown])), (h1, .inl (cI, 15, .inl r1)), (h2, .inl (cJ, 760, .inr (.inl (vp_updL r2 (450 + ((r2 23).toInt32)).toNatClampNeg s0))))] H := hP
    have hD : va_D A [(h0, .inr (10, [.ref h1, .ref kthis_rates, .ref kthis_ladder, .ref kthis_lengths, .ref kthis_flows, .int v0_phases, .ref kthis_now, .ref kthis_trial, .int v0_has, .int v0_thrown])), (h1, .inl (cI, 15, .inl r1)), (h2, .inl (cJ, 760, .inr (.inl (vp_updL r2 (450 + ((r2 23).toInt32)).toNatClampNeg s0))))] := hD
    obtain ⟨u3, e_u3⟩ : ∃ z, z = vp_updL r2 (450 + ((r2 23).toInt32)).toNatClampNeg s0 := ⟨_, rfl⟩
    rw [← e_u3] at hP hD
    have h := bnd_eq e_u3.symm h
    refine lv_aload_n hx hb dX10_tells_105 rfl (lv_at hl 2 rfl) ?_
    refine lv_bipush (v := 23) hx hb dX10_tells_106 lb_23 ?_
    refine lv_dup2_11 hx hb dX10_tells_108 rfl rfl ?_
    refine aldJ (k := 23) (q0 := 2) S hK hP rfl vl_23_760 tn_23 dX10_tells_109 ?_
    refine lv_lconst (v := 1) hx hb dX10_tells_110 rfl ?_
    refine lv_ladd hx hb dX10_tells_111 ?_
    refine astJ (k := 23) (q0 := 2) S hK hP hD hS rfl vl_23_760 tn_23 dX10_tells_112 (fun H locs hP hD hS => ?_)
    have hP : va_P D vwCl [(h0, .inr (10, [.ref h1, .ref kthis_rates, .ref kthis_ladder, .ref kthis_lengths, .ref kthis_flows, .int v0_phases, .ref kthis_now, .ref kthis_trial, .int v0_has, .int v0_thrown])), (h1, .inl (cI, 15, .inl r1)), (h2, .inl (cJ, 760, .inr (.inl (vp_updL u3 23 ((u3 23) + 1)))))] H := hP
    have hD : va_D A [(h0, .inr (10, [.ref h1, .ref kthis_rates, .ref kthis_ladder, .ref kthis_lengths, .ref kthis_flows, .int v0_phases, .ref kthis_now, .ref kthis_trial, .int v0_has, .int v0_thrown])), (h1, .inl (cI, 15, .inl r1)), (h2, .inl (cJ, 760, .inr (.inl (vp_updL u3 23 ((u3 23) + 1)))))] := hD
    obtain ⟨u4, e_u4⟩ : ∃ z, z = vp_updL u3 23 ((u3 23) + 1) := ⟨_, rfl⟩
    rw [← e_u4] at hP hD
    have h := bnd_eq e_u4.symm h
    have h := Option.some.inj h
    subst h
    exact wRv S hr hlk (hP.sub [0, 1, 2] rfl) (hD.sub [0, 1, 2] (by decide) rfl) hS dX10_tells_113
  · have h := iteP c1 h
    refine lv_ldc2 (v := 48) hx hb S.2.2.2.1 (S.2.2.2.2 _ tb1083) dX10_tells_67 ?_
    refine lv_aload_n hx hb dX10_tells_70 rfl (lv_at hl 2 rfl) ?_
    refine lv_bipush (v := 50) hx hb dX10_tells_71 lb_50 ?_
    refine lv_aload_n hx hb dX10_tells_73 rfl (lv_at hl 2 rfl) ?_
    refine lv_iconst (v := 1) hx hb dX10_tells_74 li_1 ?_
    refine aldJ (k := 1) (q0 := 2) S hK hP rfl vl_1_760 tn_1 dX10_tells_75 ?_
    refine lv_lconst (v := 1) hx hb dX10_tells_76 rfl ?_
    refine lv_lsub hx hb dX10_tells_77 ?_
    refine lv_aload_n hx hb dX10_tells_78 rfl (lv_at hl 1 rfl) ?_
    refine gf_X10_7 (v := .ref h1) S hK hP 0 rfl rfl dX10_tells_79 ?_
    refine lv_iconst (v := 0) hx hb dX10_tells_82 li_0 ?_
    refine aldI (k := 0) (q0 := 1) S hK hP rfl vl_0_15 tn_0 dX10_tells_83 ?_
    refine lv_i2l hx hb dX10_tells_84 rfl ?_
    obtain ⟨g5, h⟩ := grd_eq h
    refine lv_ldiv hx hb dX10_tells_85 (nz64_ne g5) ?_
    refine lv_l2i hx hb dX10_tells_86 rfl ?_
    refine lv_iadd hx hb dX10_tells_87 ?_
    obtain ⟨g6, h⟩ := grd_eq h
    refine aldJ (k := (50 + ((((r2 1) - 1) / ((r1 0).toInt64)).toInt32)).toNatClampNeg) (q0 := 2) S hK hP rfl (vin_in g6) rfl dX10_tells_88 ?_
    refine lv_ladd hx hb dX10_tells_89 ?_
    refine lv_topl (fun z7 e_z7 => ?_)
    have h := bnd_eq e_z7.symm h
    refine lv_lstore (lv' := [(4, .long z7), (0, .ref h0), (1, .ref h2), (2, .long l2)]) hx hb dX10_tells_90 hl (by decide) rfl (fun ls hl => ?_)
    refine lv_aload_n hx hb dX10_tells_92 rfl (lv_at hl 2 rfl) ?_
    refine lv_sipush (v := 450) hx hb dX10_tells_93 ls_450 ?_
    refine lv_aload_n hx hb dX10_tells_96 rfl (lv_at hl 2 rfl) ?_
    refine lv_bipush (v := 23) hx hb dX10_tells_97 lb_23 ?_
    refine aldJ (k := 23) (q0 := 2) S hK hP rfl vl_23_760 tn_23 dX10_tells_99 ?_
    refine lv_l2i hx hb dX10_tells_100 rfl ?_
    refine lv_iadd hx hb dX10_tells_101 ?_
    refine lv_lload hx hb dX10_tells_102 (lv_at hl 0 rfl) ?_
    obtain ⟨g8, h⟩ := grd_eq h
    refine astJ (k := (450 + ((r2 23).toInt32)).toNatClampNeg) (q0 := 2) S hK hP hD hS rfl (vin_in g8) rfl dX10_tells_104 (fun H locs hP hD hS => ?_)
    have hP : va_P D vwCl [(h0, .inr (10, [.ref h1, .ref kthis_rates, .ref kthis_ladder, .ref kthis_lengths, .ref kthis_flows, .int v0_phases, .ref kthis_now, .ref kthis_trial, .int v0_has, .int v0_thrown])), (h1, .inl (cI, 15, .inl r1)), (h2, .inl (cJ, 760, .inr (.inl (vp_updL r2 (450 + ((r2 23).toInt32)).toNatClampNeg z7))))] H := hP
    have hD : va_D A [(h0, .inr (10, [.ref h1, .ref kthis_rates, .ref kthis_ladder, .ref kthis_lengths, .ref kthis_flows, .int v0_phases, .ref kthis_now, .ref kthis_trial, .int v0_has, .int v0_thrown])), (h1, .inl (cI, 15, .inl r1)), (h2, .inl (cJ, 760, .inr (.inl (vp_updL r2 (450 + ((r2 23).toInt32)).toNatClampNeg z7))))] := hD
    obtain ⟨u9, e_u9⟩ : ∃ z, z = vp_updL r2 (450 + ((r2 23).toInt32)).toNatClampNeg z7 := ⟨_, rfl⟩
    rw [← e_u9] at hP hD
    have h := bnd_eq e_u9.symm h
    refine lv_aload_n hx hb dX10_tells_105 rfl (lv_at hl 2 rfl) ?_
    refine lv_bipush (v := 23) hx hb dX10_tells_106 lb_23 ?_
    refine lv_dup2_11 hx hb dX10_tells_108 rfl rfl ?_
    refine aldJ (k := 23) (q0 := 2) S hK hP rfl vl_23_760 tn_23 dX10_tells_109 ?_
    refine lv_lconst (v := 1) hx hb dX10_tells_110 rfl ?_
    refine lv_ladd hx hb dX10_tells_111 ?_
    refine astJ (k := 23) (q0 := 2) S hK hP hD hS rfl vl_23_760 tn_23 dX10_tells_112 (fun H locs hP hD hS => ?_)
    have hP : va_P D vwCl [(h0, .inr (10, [.ref h1, .ref kthis_rates, .ref kthis_ladder, .ref kthis_lengths, .ref kthis_flows, .int v0_phases, .ref kthis_now, .ref kthis_trial, .int v0_has, .int v0_thrown])), (h1, .inl (cI, 15, .inl r1)), (h2, .inl (cJ, 760, .inr (.inl (vp_updL u9 23 ((u9 23) + 1)))))] H := hP
    have hD : va_D A [(h0, .inr (10, [.ref h1, .ref kthis_rates, .ref kthis_ladder, .ref kthis_lengths, .ref kthis_flows, .int v0_phases, .ref kthis_now, .ref kthis_trial, .int v0_has, .int v0_thrown])), (h1, .inl (cI, 15, .inl r1)), (h2, .inl (cJ, 760, .inr (.inl (vp_updL u9 23 ((u9 23) + 1)))))] := hD
    obtain ⟨u10, e_u10⟩ : ∃ z, z = vp_updL u9 23 ((u9 23) + 1) := ⟨_, rfl⟩
    rw [← e_u10] at hP hD
    have h := bnd_eq e_u10.symm h
    have h := Option.some.inj h
    subst h
    exact wRv S hr hlk (hP.sub [0, 1, 2] rfl) (hD.sub [0, 1, 2] (by decide) rfl) hS dX10_tells_113
set_option maxHeartbeats 4000000 in
set_option maxRecDepth 100000 in
theorem c_X10_tells (l : Launch) (D : va_G) (cI cJ cC : ClassId) (h0 h1 h2 kthis_rates kthis_ladder kthis_lengths kthis_flows kthis_now kthis_trial : Nat) (v0_phases v0_has v0_thrown : Int32) (r1 : Nat → Int32) (r2 : Nat → Int64) (sz : Nat)  (t0 : Nat → Int64) (h : f_X10_tells r1 r2 = some t0) : Met l yX10_tells (Cond.code yX10_tells cX10_tells 6 none :: TB) rm_X10_tells (PreW D cI cJ cC [(h0, .inr (10, [.ref h1, .ref kthis_rates, .ref kthis_ladder, .ref kthis_lengths, .ref kthis_flows, .int v0_phases, .ref kthis_now, .ref kthis_trial, .int v0_has, .int v0_thrown])), (h1, .inl (cI, 15, .inl r1)), (h2, .inl (cJ, 760, .inr (.inl r2)))] sz [.ref h0, .ref h2]) (QW none D [(h0, .inr (10, [.ref h1, .ref kthis_rates, .ref kthis_ladder, .ref kthis_lengths, .ref kthis_flows, .int v0_phases, .ref kthis_now, .ref kthis_trial, .int v0_has, .int v0_thrown])), (h1, .inl (cI, 15, .inl r1)), (h2, .inl (cJ, 760, .inr (.inl t0)))] (va_A [(h0, .inr (10, [.ref h1, .ref kthis_rates, .ref kthis_ladder, .ref kthis_lengths, .ref kthis_flows, .int v0_phases, .ref kthis_now, .ref kthis_trial, .int v0_has, .int v0_thrown])), (h1, .inl (cI, 15, .inl r1)), (h2, .inl (cJ, 760, .inr (.inl r2)))] sz)) 0 0 (va_A [(h0, .inr (10, [.ref h1, .ref kthis_rates, .ref kthis_ladder, .ref kthis_lengths, .ref kthis_flows, .int v0_phases, .ref kthis_now, .ref kthis_trial, .int v0_has, .int v0_thrown])), (h1, .inl (cI, 15, .inl r1)), (h2, .inl (cJ, 760, .inr (.inl r2)))] sz) := by
  refine metW (own := RX10) (by decide) rfl (Nat.le_of_ble_eq_true rfl) ?_
  intro p e s m below meth c S hr hlk hP hK A hAe hD hA hS ls hl
  clear hAe
  have hx := S.1
  have hb := S.2.1
  have hl : lv_has ls 6 [(0, .ref h0), (1, .ref h2)] := hl
  refine lv_aload_n hx hb dX10_tells_0 rfl (lv_at hl 1 rfl) ?_
  refine lv_iconst (v := 0) hx hb dX10_tells_1 li_0 ?_
  refine aldJ (k := 0) (q0 := 2) S hK hP rfl vl_0_760 tn_0 dX10_tells_2 ?_
  refine lv_ldc2 (v := 1000) hx hb S.2.2.2.1 (S.2.2.2.2 _ tb1077) dX10_tells_3 ?_
  refine remw_l hx hb dX10_tells_6 nzl_1000 ?_
  refine lv_lconst (v := 0) hx hb dX10_tells_7 rfl ?_
  refine lc_ne (tgt := 23) hx hb dX10_tells_8 dX10_tells_9 (by decide) (fun c1 => ?_) (fun c1 => ?_)
  · have h := iteN c1 h
    have h := Option.some.inj h
    subst h
    exact wRv S hr hlk (hP.sub [0, 1, 2] rfl) (hD.sub [0, 1, 2] (by decide) rfl) hS dX10_tells_23
  · have h := iteP c1 h
    refine lv_aload_n hx hb dX10_tells_12 rfl (lv_at hl 1 rfl) ?_
    refine lv_bipush (v := 23) hx hb dX10_tells_13 lb_23 ?_
    refine aldJ (k := 23) (q0 := 2) S hK hP rfl vl_23_760 tn_23 dX10_tells_15 ?_
    refine lv_ldc2 (v := 300) hx hb S.2.2.2.1 (S.2.2.2.2 _ tb1078) dX10_tells_16 ?_
    refine lc_ne (tgt := 24) hx hb dX10_tells_19 dX10_tells_20 (by decide) (fun c2 => ?_) (fun c2 => ?_)
    · have h := iteN c2 h
      refine lv_aload_n hx hb dX10_tells_24 rfl (lv_at hl 1 rfl) ?_
      refine lv_iconst (v := 2) hx hb dX10_tells_25 li_2 ?_
      refine aldJ (k := 2) (q0 := 2) S hK hP rfl vl_2_760 tn_2 dX10_tells_26 ?_
      refine lv_lstore_n (lv' := [(2, .long (r2 2)), (0, .ref h0), (1, .ref h2)]) hx hb dX10_tells_27 rfl hl (by decide) rfl (fun ls hl => ?_)
      refine lv_lload_n hx hb dX10_tells_28 rfl (lv_at hl 0 rfl) ?_
      refine lv_lconst (v := 1) hx hb dX10_tells_29 rfl ?_
      refine lc_ne (tgt := 40) hx hb dX10_tells_30 dX10_tells_31 (by decide) (fun c3 => ?_) (fun c3 => ?_)
      · have h := iteN c3 h
        refine lv_lload_n hx hb dX10_tells_40 rfl (lv_at hl 0 rfl) ?_
        refine lv_ldc2 (v := 3) hx hb S.2.2.2.1 (S.2.2.2.2 _ tb1047) dX10_tells_41 ?_
        refine lc_ne (tgt := 54) hx hb dX10_tells_44 dX10_tells_45 (by decide) (fun c4 => ?_) (fun c4 => ?_)
        · have h := iteN c4 h
          refine lv_ldc2 (v := 101) hx hb S.2.2.2.1 (S.2.2.2.2 _ tb1081) dX10_tells_54 ?_
          exact k_X10_tells_b57 S hr hlk hK hA r2 (r2 2) 101 _ _ _ h (hP.sub [0, 1, 2] rfl) (hD.sub [0, 1, 2] (by decide) rfl) hS (lv_sub hl [1, 2, 0] rfl)
        · have h := iteP c4 h
          refine lv_ldc2 (v := 45) hx hb S.2.2.2.1 (S.2.2.2.2 _ tb1080) dX10_tells_48 ?_
          refine lv_goto (tgt := 57) hx hb dX10_tells_51 (by decide) ?_
          exact k_X10_tells_b57 S hr hlk hK hA r2 (r2 2) 45 _ _ _ h (hP.sub [0, 1, 2] rfl) (hD.sub [0, 1, 2] (by decide) rfl) hS (lv_sub hl [1, 2, 0] rfl)
      · have h := iteP c3 h
        refine lv_ldc2 (v := 115) hx hb S.2.2.2.1 (S.2.2.2.2 _ tb1079) dX10_tells_34 ?_
        refine lv_goto (tgt := 57) hx hb dX10_tells_37 (by decide) ?_
        exact k_X10_tells_b57 S hr hlk hK hA r2 (r2 2) 115 _ _ _ h (hP.sub [0, 1, 2] rfl) (hD.sub [0, 1, 2] (by decide) rfl) hS (lv_sub hl [1, 2, 0] rfl)
    · have h := iteP c2 h
      have h := Option.some.inj h
      subst h
      exact wRv S hr hlk (hP.sub [0, 1, 2] rfl) (hD.sub [0, 1, 2] (by decide) rfl) hS dX10_tells_23
abbrev rm_X10_goesOn : Room := { frames := 4, cells := 0, slots := 0, locals := 109 }
theorem dX10_goesOn_0 : decode cX10_goesOn 0 = .ok (.iconst 0, 1) := by decide +kernel
theorem dX10_goesOn_1 : decode cX10_goesOn 1 = .ok (.istore 5, 2) := by decide +kernel
theorem dX10_goesOn_3 : decode cX10_goesOn 3 = .ok (.iload 5, 2) := by decide +kernel
theorem dX10_goesOn_5 : decode cX10_goesOn 5 = .ok (.iload_n 2, 1) := by decide +kernel
theorem dX10_goesOn_6 : decode cX10_goesOn 6 = .ok (.if_icmp .ge 118, 3) := by decide +kernel
theorem dX10_goesOn_9 : decode cX10_goesOn 9 = .ok (.aload_n 0, 1) := by decide +kernel
theorem dX10_goesOn_10 : decode cX10_goesOn 10 = .ok (.aload_n 1, 1) := by decide +kernel
theorem dX10_goesOn_11 : decode cX10_goesOn 11 = .ok (.invokevirtual 147, 3) := by decide +kernel
theorem dX10_goesOn_14 : decode cX10_goesOn 14 = .ok (.aload_n 1, 1) := by decide +kernel
theorem dX10_goesOn_15 : decode cX10_goesOn 15 = .ok (.iconst 5, 1) := by decide +kernel
theorem dX10_goesOn_16 : decode cX10_goesOn 16 = .ok (.laload, 1) := by decide +kernel
theorem dX10_goesOn_17 : decode cX10_goesOn 17 = .ok (.lconst 0, 1) := by decide +kernel
theorem dX10_goesOn_18 : decode cX10_goesOn 18 = .ok (.lcmp, 1) := by decide +kernel
theorem dX10_goesOn_19 : decode cX10_goesOn 19 = .ok (.ifCond .ne 9, 3) := by decide +kernel
theorem dX10_goesOn_22 : decode cX10_goesOn 22 = .ok (.aload_n 0, 1) := by decide +kernel
theorem dX10_goesOn_23 : decode cX10_goesOn 23 = .ok (.aload_n 1, 1) := by decide +kernel
theorem dX10_goesOn_24 : decode cX10_goesOn 24 = .ok (.iload_n 3, 1) := by decide +kernel
theorem dX10_goesOn_25 : decode cX10_goesOn 25 = .ok (.invokevirtual 151, 3) := by decide +kernel
theorem dX10_goesOn_28 : decode cX10_goesOn 28 = .ok (.aload_n 1, 1) := by decide +kernel
theorem dX10_goesOn_29 : decode cX10_goesOn 29 = .ok (.iconst 5, 1) := by decide +kernel
theorem dX10_goesOn_30 : decode cX10_goesOn 30 = .ok (.laload, 1) := by decide +kernel
theorem dX10_goesOn_31 : decode cX10_goesOn 31 = .ok (.lconst 1, 1) := by decide +kernel
theorem dX10_goesOn_32 : decode cX10_goesOn 32 = .ok (.lcmp, 1) := by decide +kernel
theorem dX10_goesOn_33 : decode cX10_goesOn 33 = .ok (.ifCond .ne 8, 3) := by decide +kernel
theorem dX10_goesOn_36 : decode cX10_goesOn 36 = .ok (.aload_n 0, 1) := by decide +kernel
theorem dX10_goesOn_37 : decode cX10_goesOn 37 = .ok (.aload_n 1, 1) := by decide +kernel
theorem dX10_goesOn_38 : decode cX10_goesOn 38 = .ok (.invokevirtual 155, 3) := by decide +kernel
theorem dX10_goesOn_41 : decode cX10_goesOn 41 = .ok (.aload_n 1, 1) := by decide +kernel
theorem dX10_goesOn_42 : decode cX10_goesOn 42 = .ok (.iconst 5, 1) := by decide +kernel
theorem dX10_goesOn_43 : decode cX10_goesOn 43 = .ok (.laload, 1) := by decide +kernel
theorem dX10_goesOn_44 : decode cX10_goesOn 44 = .ok (.lconst 1, 1) := by decide +kernel
theorem dX10_goesOn_45 : decode cX10_goesOn 45 = .ok (.lcmp, 1) := by decide +kernel
theorem dX10_goesOn_46 : decode cX10_goesOn 46 = .ok (.ifCond .ne 8, 3) := by decide +kernel
theorem dX10_goesOn_49 : decode cX10_goesOn 49 = .ok (.aload_n 0, 1) := by decide +kernel
theorem dX10_goesOn_50 : decode cX10_goesOn 50 = .ok (.aload_n 1, 1) := by decide +kernel
theorem dX10_goesOn_51 : decode cX10_goesOn 51 = .ok (.invokevirtual 158, 3) := by decide +kernel
theorem dX10_goesOn_54 : decode cX10_goesOn 54 = .ok (.aload_n 0, 1) := by decide +kernel
theorem dX10_goesOn_55 : decode cX10_goesOn 55 = .ok (.aload_n 1, 1) := by decide +kernel
theorem dX10_goesOn_56 : decode cX10_goesOn 56 = .ok (.iload 4, 2) := by decide +kernel
theorem dX10_goesOn_58 : decode cX10_goesOn 58 = .ok (.invokevirtual 161, 3) := by decide +kernel
theorem dX10_goesOn_61 : decode cX10_goesOn 61 = .ok (.aload_n 1, 1) := by decide +kernel
theorem dX10_goesOn_62 : decode cX10_goesOn 62 = .ok (.iconst 2, 1) := by decide +kernel
theorem dX10_goesOn_63 : decode cX10_goesOn 63 = .ok (.laload, 1) := by decide +kernel
theorem dX10_goesOn_64 : decode cX10_goesOn 64 = .ok (.ldc2_w 133, 3) := by decide +kernel
theorem dX10_goesOn_67 : decode cX10_goesOn 67 = .ok (.lcmp, 1) := by decide +kernel
theorem dX10_goesOn_68 : decode cX10_goesOn 68 = .ok (.ifCond .eq 43, 3) := by decide +kernel
theorem dX10_goesOn_71 : decode cX10_goesOn 71 = .ok (.aload_n 1, 1) := by decide +kernel
theorem dX10_goesOn_72 : decode cX10_goesOn 72 = .ok (.iconst 2, 1) := by decide +kernel
theorem dX10_goesOn_73 : decode cX10_goesOn 73 = .ok (.laload, 1) := by decide +kernel
theorem dX10_goesOn_74 : decode cX10_goesOn 74 = .ok (.lconst 1, 1) := by decide +kernel
theorem dX10_goesOn_75 : decode cX10_goesOn 75 = .ok (.lcmp, 1) := by decide +kernel
theorem dX10_goesOn_76 : decode cX10_goesOn 76 = .ok (.ifCond .ne 7, 3) := by decide +kernel
theorem dX10_goesOn_79 : decode cX10_goesOn 79 = .ok (.iconst 0, 1) := by decide +kernel
theorem dX10_goesOn_80 : decode cX10_goesOn 80 = .ok (.goto 18, 3) := by decide +kernel
theorem dX10_goesOn_83 : decode cX10_goesOn 83 = .ok (.aload_n 1, 1) := by decide +kernel
theorem dX10_goesOn_84 : decode cX10_goesOn 84 = .ok (.iconst 2, 1) := by decide +kernel
theorem dX10_goesOn_85 : decode cX10_goesOn 85 = .ok (.laload, 1) := by decide +kernel
theorem dX10_goesOn_86 : decode cX10_goesOn 86 = .ok (.ldc2_w 78, 3) := by decide +kernel
theorem dX10_goesOn_89 : decode cX10_goesOn 89 = .ok (.lcmp, 1) := by decide +kernel
theorem dX10_goesOn_90 : decode cX10_goesOn 90 = .ok (.ifCond .ne 7, 3) := by decide +kernel
theorem dX10_goesOn_93 : decode cX10_goesOn 93 = .ok (.iconst 1, 1) := by decide +kernel
theorem dX10_goesOn_94 : decode cX10_goesOn 94 = .ok (.goto 4, 3) := by decide +kernel
theorem dX10_goesOn_97 : decode cX10_goesOn 97 = .ok (.iconst 2, 1) := by decide +kernel
theorem dX10_goesOn_98 : decode cX10_goesOn 98 = .ok (.istore 6, 2) := by decide +kernel
theorem dX10_goesOn_100 : decode cX10_goesOn 100 = .ok (.aload_n 1, 1) := by decide +kernel
theorem dX10_goesOn_101 : decode cX10_goesOn 101 = .ok (.bipush 15, 2) := by decide +kernel
theorem dX10_goesOn_103 : decode cX10_goesOn 103 = .ok (.iload 6, 2) := by decide +kernel
theorem dX10_goesOn_105 : decode cX10_goesOn 105 = .ok (.iadd, 1) := by decide +kernel
theorem dX10_goesOn_106 : decode cX10_goesOn 106 = .ok (.dup2, 1) := by decide +kernel
theorem dX10_goesOn_107 : decode cX10_goesOn 107 = .ok (.laload, 1) := by decide +kernel
theorem dX10_goesOn_108 : decode cX10_goesOn 108 = .ok (.lconst 1, 1) := by decide +kernel
theorem dX10_goesOn_109 : decode cX10_goesOn 109 = .ok (.ladd, 1) := by decide +kernel
theorem dX10_goesOn_110 : decode cX10_goesOn 110 = .ok (.lastore, 1) := by decide +kernel
theorem dX10_goesOn_111 : decode cX10_goesOn 111 = .ok (.aload_n 1, 1) := by decide +kernel
theorem dX10_goesOn_112 : decode cX10_goesOn 112 = .ok (.iconst 0, 1) := by decide +kernel
theorem dX10_goesOn_113 : decode cX10_goesOn 113 = .ok (.dup2, 1) := by decide +kernel
theorem dX10_goesOn_114 : decode cX10_goesOn 114 = .ok (.laload, 1) := by decide +kernel
theorem dX10_goesOn_115 : decode cX10_goesOn 115 = .ok (.lconst 1, 1) := by decide +kernel
theorem dX10_goesOn_116 : decode cX10_goesOn 116 = .ok (.ladd, 1) := by decide +kernel
theorem dX10_goesOn_117 : decode cX10_goesOn 117 = .ok (.lastore, 1) := by decide +kernel
theorem dX10_goesOn_118 : decode cX10_goesOn 118 = .ok (.iinc 5 1, 3) := by decide +kernel
theorem dX10_goesOn_121 : decode cX10_goesOn 121 = .ok (.goto (-118), 3) := by decide +kernel
theorem dX10_goesOn_124 : decode cX10_goesOn 124 = .ok (.return_, 1) := by decide +kernel
theorem cw_X10_147 {R : Room} {s : State} {args : Array Value} (hts : ∀ w ∈ TB, w.before args s = true) (hR : rm_X10_tells.frames + 1 ≤ R.frames ∧ 8 + (6 + 11) + rm_X10_tells.locals ≤ R.locals) : CallW R s args RX10 RX10 147 yX10_tells cX10_tells 6 none (Cond.code yX10_tells cX10_tells 6 none :: TB) rm_X10_tells 0 0 1 := cwV 1 hts (gV tb1074 tb1075 tb26 tb57 tb1076) rfl rfl rfl ⟨rfl, by decide, by decide, by decide +kernel⟩ hR
theorem cw_X10_151 {R : Room} {s : State} {args : Array Value} (hts : ∀ w ∈ TB, w.before args s = true) (hR : rm_X10_looksForNext.frames + 1 ≤ R.frames ∧ 8 + (5 + 11) + rm_X10_looksForNext.locals ≤ R.locals) : CallW R s args RX10 RX10 151 yX10_looksForNext cX10_looksForNext 5 none (Cond.code yX10_looksForNext cX10_looksForNext 5 none :: TB) rm_X10_looksForNext 0 0 2 := cwV 2 hts (gV tb1084 tb1085 tb27 tb57 tb1086) rfl rfl rfl ⟨rfl, by decide, by decide, by decide +kernel⟩ hR
theorem cw_X10_155 {R : Room} {s : State} {args : Array Value} (hts : ∀ w ∈ TB, w.before args s = true) (hR : rm_X10_receives.frames + 1 ≤ R.frames ∧ 8 + (6 + 11) + rm_X10_receives.locals ≤ R.locals) : CallW R s args RX10 RX10 155 yX10_receives cX10_receives 6 none (Cond.code yX10_receives cX10_receives 6 none :: TB) rm_X10_receives 0 0 1 := cwV 1 hts (gV tb1109 tb1110 tb34 tb57 tb1111) rfl rfl rfl ⟨rfl, by decide, by decide, by decide +kernel⟩ hR
theorem cw_X10_158 {R : Room} {s : State} {args : Array Value} (hts : ∀ w ∈ TB, w.before args s = true) (hR : rm_X10_givesUp.frames + 1 ≤ R.frames ∧ 8 + (8 + 11) + rm_X10_givesUp.locals ≤ R.locals) : CallW R s args RX10 RX10 158 yX10_givesUp cX10_givesUp 8 none (Cond.code yX10_givesUp cX10_givesUp 8 none :: TB) rm_X10_givesUp 0 0 1 := cwV 1 hts (gV tb1113 tb1114 tb35 tb57 tb1115) rfl rfl rfl ⟨rfl, by decide, by decide, by decide +kernel⟩ hR
theorem cw_X10_161 {R : Room} {s : State} {args : Array Value} (hts : ∀ w ∈ TB, w.before args s = true) (hR : rm_X10_plays.frames + 1 ≤ R.frames ∧ 8 + (7 + 11) + rm_X10_plays.locals ≤ R.locals) : CallW R s args RX10 RX10 161 yX10_plays cX10_plays 7 none (Cond.code yX10_plays cX10_plays 7 none :: TB) rm_X10_plays 0 0 2 := cwV 2 hts (gV tb1119 tb1120 tb36 tb57 tb1121) rfl rfl rfl ⟨rfl, by decide, by decide, by decide +kernel⟩ hR
def f_X10_goesOn_b98  (K : (Nat → Int64) → Int32 → Int32 → Int32 → Int32 → Option (Nat → Int64)) (r6 : Nat → Int64) (l2 l3 l4 l5 s0 : Int32) : Option (Nat → Int64) :=
  grd (vin (15 + s0) 760) <|
  bnd ((r6 (15 + s0).toNatClampNeg) + 1) fun (z2 : Int64) =>
  grd (vin (15 + s0) 760) <|
  bnd (vp_updL r6 (15 + s0).toNatClampNeg z2) fun (u4 : Nat → Int64) =>
  bnd (vp_updL u4 0 ((u4 0) + 1)) fun (u5 : Nat → Int64) =>
  K u5 l2 l3 l4 (l5 + 1)
def f_X10_goesOn_b54 (r2 r4 r5 : Nat → Int32) (K : (Nat → Int64) → Int32 → Int32 → Int32 → Int32 → Option (Nat → Int64)) (r6 : Nat → Int64) (l2 l3 l4 l5 : Int32) : Option (Nat → Int64) :=
  obnd (f_X10_plays r2 r4 r5 r6 l4) fun (u1 : Nat → Int64) =>
  if (u1 2) = 4 then
    bnd (vp_updL u1 0 ((u1 0) + 1)) fun (u3 : Nat → Int64) =>
    K u3 l2 l3 l4 (l5 + 1)
  else
    if (u1 2) = 1 then
      f_X10_goesOn_b98 K u1 l2 l3 l4 l5 0
    else
      if (u1 2) = 3 then
        f_X10_goesOn_b98 K u1 l2 l3 l4 l5 1
      else
        f_X10_goesOn_b98 K u1 l2 l3 l4 l5 2
def f_X10_goesOn_b41 (r2 r4 r5 : Nat → Int32) (K : (Nat → Int64) → Int32 → Int32 → Int32 → Int32 → Option (Nat → Int64)) (r6 : Nat → Int64) (l2 l3 l4 l5 : Int32) : Option (Nat → Int64) :=
  if (r6 5) = 1 then
    obnd (f_X10_givesUp r4 r5 r6) fun (u2 : Nat → Int64) =>
    f_X10_goesOn_b54 r2 r4 r5 K u2 l2 l3 l4 l5
  else
    f_X10_goesOn_b54 r2 r4 r5 K r6 l2 l3 l4 l5
def f_X10_goesOn_b28 (v0_phases : Int32) (r1 r2 r3 r4 r5 : Nat → Int32) (K : (Nat → Int64) → Int32 → Int32 → Int32 → Int32 → Option (Nat → Int64)) (r6 : Nat → Int64) (l2 l3 l4 l5 : Int32) : Option (Nat → Int64) :=
  if (r6 5) = 1 then
    obnd (f_X10_receives v0_phases r1 r3 r6) fun (u2 : Nat → Int64) =>
    f_X10_goesOn_b41 r2 r4 r5 K u2 l2 l3 l4 l5
  else
    f_X10_goesOn_b41 r2 r4 r5 K r6 l2 l3 l4 l5
def f_X10_goesOn_b3 (v0_phases : Int32) (r1 r2 r3 r4 r5 : Nat → Int32) : Nat → (Nat → Int64) → Int32 → Int32 → Int32 → Int32 → Option (Nat → Int64)
  | 0, _, _, _, _, _ => none
  | n + 1, r6, l2, l3, l4, l5 =>
    if l2 ≤ l5 then
      some r6
    else
      obnd (f_X10_tells r4 r6) fun (u2 : Nat → Int64) =>
      if (u2 5) = 0 then
        obnd (f_X10_looksForNext r2 r4 r5 u2 l3) fun (u4 : Nat → Int64) =>
        f_X10_goesOn_b28 v0_phases r1 r2 r3 r4 r5 (fun r6' l2' l3' l4' l5' => f_X10_goesOn_b3 v0_phases r1 r2 r3 r4 r5 n r6' l2' l3' l4' l5') u4 l2 l3 l4 l5
      else
        f_X10_goesOn_b28 v0_phases r1 r2 r3 r4 r5 (fun r6' l2' l3' l4' l5' => f_X10_goesOn_b3 v0_phases r1 r2 r3 r4 r5 n r6' l2' l3' l4' l5') u2 l2 l3 l4 l5
def f_X10_goesOn (v0_phases : Int32) (r1 r2 r3 r4 r5 : Nat → Int32) (r6 : Nat → Int64) (p1 p2 p3 : Int32) : Option (Nat → Int64) :=
  f_X10_goesOn_b3 v0_phases r1 r2 r3 r4 r5 (((p1.toInt - (0 : Int32).toInt).toNat) + 1) r6 p1 p2 p3 0
set_option maxHeartbeats 4000000 in
set_option maxRecDepth 100000 in
theorem k_X10_goesOn_b98 {p : Program} {l : Launch} {e : Env} {s : State} {m : MethodId} {args : Array Value} {below : List Frame} {meth : Method} {c : Code} {D : va_G} {cI cJ cC : ClassId} {h0 h1 h2 h3 h4 h5 h6 kthis_now kthis_trial : Nat} {v0_phases v0_has v0_thrown : Int32} {r1 r2 r3 r4 r5 : Nat → Int32} {t0 : Nat → Int64}{A : Nat → Prop} (S : CallFix p m c cX10_goesOn 7 s args TB RX10) (hr : meth.sig.returnType = none) (hlk : meth.locks = false) (hK : va_K D vwCl (ty3 cI cJ cC) s) (hA : ∀ q : Nat, s.heap.size ≤ q → A q) {K : (Nat → Int64) → Int32 → Int32 → Int32 → Int32 → Option (Nat → Int64)} {n : Nat} (hk : ∀ (r6 : Nat → Int64) (l2 l3 l4 l5 : Int32) (H : Heap) (locs : List Loc) (ls : Array Slot), (l2.toInt - l5.toInt).toNat < n → K r6 l2 l3 l4 l5 = some t0 → va_P D vwCl [(h0, .inr (10, [.ref h4, .ref h5, .ref h2, .ref h3, .ref h1, .int v0_phases, .ref kthis_now, .ref kthis_trial, .int v0_has, .int v0_thrown])), (h1, .inl (cI, 20, .inl r1)), (h2, .inl (cI, 2, .inl r2)), (h3, .inl (cI, 20, .inl r3)), (h4, .inl (cI, 15, .inl r4)), (h5, .inl (cI, 12, .inl r5)), (h6, .inl (cJ, 760, .inr (.inl r6)))] H → va_D A [(h0, .inr (10, [.ref h4, .ref h5, .ref h2, .ref h3, .ref h1, .int v0_phases, .ref kthis_now, .ref kthis_trial, .int v0_has, .int v0_thrown])), (h1, .inl (cI, 20, .inl r1)), (h2, .inl (cI, 2, .inl r2)), (h3, .inl (cI, 20, .inl r3)), (h4, .inl (cI, 15, .inl r4)), (h5, .inl (cI, 12, .inl r5)), (h6, .inl (cJ, 760, .inr (.inl r6)))] → va_S A s.heap H locs → lv_has ls 7 [(0, .ref h0), (1, .ref h6), (2, .int l2), (3, .int l3), (4, .int l4), (5, .int l5)] → W p l e rm_X10_goesOn s m args below meth c H locs 0 0 (MQ below (QW none D [(h0, .inr (10, [.ref h4, .ref h5, .ref h2, .ref h3, .ref h1, .int v0_phases, .ref kthis_now, .ref kthis_trial, .int v0_has, .int v0_thrown])), (h1, .inl (cI, 20, .inl r1)), (h2, .inl (cI, 2, .inl r2)), (h3, .inl (cI, 20, .inl r3)), (h4, .inl (cI, 15, .inl r4)), (h5, .inl (cI, 12, .inl r5)), (h6, .inl (cJ, 760, .inr (.inl t0)))] A) args s 0 0 A) (F0 m 3 ls [])) : ∀ (r6 : Nat → Int64) (l2 l3 l4 l5 s0 : Int32) (H : Heap) (locs : List Loc) (ls : Array Slot), (l2.toInt - (l5 + 1).toInt).toNat < n → f_X10_goesOn_b98 K r6 l2 l3 l4 l5 s0 = some t0 → va_P D vwCl [(h0, .inr (10, [.ref h4, .ref h5, .ref h2, .ref h3, .ref h1, .int v0_phases, .ref kthis_now, .ref kthis_trial, .int v0_has, .int v0_thrown])), (h1, .inl (cI, 20, .inl r1)), (h2, .inl (cI, 2, .inl r2)), (h3, .inl (cI, 20, .inl r3)), (h4, .inl (cI, 15, .inl r4)), (h5, .inl (cI, 12, .inl r5)), (h6, .inl (cJ, 760, .inr (.inl r6)))] H → va_D A [(h0, .inr (10, [.ref h4, .ref h5, .ref h2, .ref h3, .ref h1, .int v0_phases, .ref kthis_now, .ref kthis_trial, .int v0_has, .int v0_thrown])), (h1, .inl (cI, 20, .inl r1)), (h2, .inl (cI, 2, .inl r2)), (h3, .inl (cI, 20, .inl r3)), (h4, .inl (cI, 15, .inl r4)), (h5, .inl (cI, 12, .inl r5)), (h6, .inl (cJ, 760, .inr (.inl r6)))] → va_S A s.heap H locs → lv_has ls 7 [(0, .ref h0), (1, .ref h6), (2, .int l2), (3, .int l3), (4, .int l4), (5, .int l5)] → W p l e rm_X10_goesOn s m args below meth c H locs 0 0 (MQ below (QW none D [(h0, .inr (10, [.ref h4, .ref h5, .ref h2, .ref h3, .ref h1, .int v0_phases, .ref kthis_now, .ref kthis_trial, .int v0_has, .int v0_thrown])), (h1, .inl (cI, 20, .inl r1)), (h2, .inl (cI, 2, .inl r2)), (h3, .inl (cI, 20, .inl r3)), (h4, .inl (cI, 15, .inl r4)), (h5, .inl (cI, 12, .inl r5)), (h6, .inl (cJ, 760, .inr (.inl t0)))] A) args s 0 0 A) (F0 m 98 ls [.int s0]) := by
  have hx := S.1
  have hb := S.2.1
  intro r6 l2 l3 l4 l5 s0 H locs ls hcy h hP hD hS hl
  refine lv_istore (lv' := [(6, .int s0), (0, .ref h0), (1, .ref h6), (2, .int l2), (3, .int l3), (4, .int l4), (5, .int l5)]) hx hb dX10_goesOn_98 hl (by decide) rfl (fun ls hl => ?_)
  refine lv_aload_n hx hb dX10_goesOn_100 rfl (lv_at hl 2 rfl) ?_
  refine lv_bipush (v := 15) hx hb dX10_goesOn_101 lb_15 ?_
  refine lv_iload hx hb dX10_goesOn_103 (lv_at hl 0 rfl) ?_
  refine lv_iadd hx hb dX10_goesOn_105 ?_
  refine lv_dup2_11 hx hb dX10_goesOn_106 rfl rfl ?_
  obtain ⟨g1, h⟩ := grd_eq h
  refine aldJ (k := (15 + s0).toNatClampNeg) (q0 := 6) S hK hP rfl (vin_in g1) rfl dX10_goesOn_107 ?_
  refine lv_lconst (v := 1) hx hb dX10_goesOn_108 rfl ?_
  refine lv_ladd hx hb dX10_goesOn_109 ?_
  refine lv_topl (fun z2 e_z2 => ?_)
  have h := bnd_eq e_z2.symm h
  obtain ⟨g3, h⟩ := grd_eq h
  refine astJ (k := (15 + s0).toNatClampNeg) (q0 := 6) S hK hP hD hS rfl (vin_in g3) rfl dX10_goesOn_110 (fun H locs hP hD hS => ?_)
  have hP : va_P D vwCl [(h0, .inr (10, [.ref h4, .ref h5, .ref h2, .ref h3, .ref h1, .int v0_phases, .ref kthis_now, .ref kthis_trial, .int v0_has, .int v0_thrown])), (h1, .inl (cI, 20, .inl r1)), (h2, .inl (cI, 2, .inl r2)), (h3, .inl (cI, 20, .inl r3)), (h4, .inl (cI, 15, .inl r4)), (h5, .inl (cI, 12, .inl r5)), (h6, .inl (cJ, 760, .inr (.inl (vp_updL r6 (15 + s0).toNatClampNeg z2))))] H := hP
  have hD : va_D A [(h0, .inr (10, [.ref h4, .ref h5, .ref h2, .ref h3, .ref h1, .int v0_phases, .ref kthis_now, .ref kthis_trial, .int v0_has, .int v0_thrown])), (h1, .inl (cI, 20, .inl r1)), (h2, .inl (cI, 2, .inl r2)), (h3, .inl (cI, 20, .inl r3)), (h4, .inl (cI, 15, .inl r4)), (h5, .inl (cI, 12, .inl r5)), (h6, .inl (cJ, 760, .inr (.inl (vp_updL r6 (15 + s0).toNatClampNeg z2))))] := hD
  obtain ⟨u4, e_u4⟩ : ∃ z, z = vp_updL r6 (15 + s0).toNatClampNeg z2 := ⟨_, rfl⟩
  rw [← e_u4] at hP hD
  have h := bnd_eq e_u4.symm h
  refine lv_aload_n hx hb dX10_goesOn_111 rfl (lv_at hl 2 rfl) ?_
  refine lv_iconst (v := 0) hx hb dX10_goesOn_112 li_0 ?_
  refine lv_dup2_11 hx hb dX10_goesOn_113 rfl rfl ?_
  refine aldJ (k := 0) (q0 := 6) S hK hP rfl vl_0_760 tn_0 dX10_goesOn_114 ?_
  refine lv_lconst (v := 1) hx hb dX10_goesOn_115 rfl ?_
  refine lv_ladd hx hb dX10_goesOn_116 ?_
  refine astJ (k := 0) (q0 := 6) S hK hP hD hS rfl vl_0_760 tn_0 dX10_goesOn_117 (fun H locs hP hD hS => ?_)
  have hP : va_P D vwCl [(h0, .inr (10, [.ref h4, .ref h5, .ref h2, .ref h3, .ref h1, .int v0_phases, .ref kthis_now, .ref kthis_trial, .int v0_has, .int v0_thrown])), (h1, .inl (cI, 20, .inl r1)), (h2, .inl (cI, 2, .inl r2)), (h3, .inl (cI, 20, .inl r3)), (h4, .inl (cI, 15, .inl r4)), (h5, .inl (cI, 12, .inl r5)), (h6, .inl (cJ, 760, .inr (.inl (vp_updL u4 0 ((u4 0) + 1)))))] H := hP
  have hD : va_D A [(h0, .inr (10, [.ref h4, .ref h5, .ref h2, .ref h3, .ref h1, .int v0_phases, .ref kthis_now, .ref kthis_trial, .int v0_has, .int v0_thrown])), (h1, .inl (cI, 20, .inl r1)), (h2, .inl (cI, 2, .inl r2)), (h3, .inl (cI, 20, .inl r3)), (h4, .inl (cI, 15, .inl r4)), (h5, .inl (cI, 12, .inl r5)), (h6, .inl (cJ, 760, .inr (.inl (vp_updL u4 0 ((u4 0) + 1)))))] := hD
  obtain ⟨u5, e_u5⟩ : ∃ z, z = vp_updL u4 0 ((u4 0) + 1) := ⟨_, rfl⟩
  rw [← e_u5] at hP hD
  have h := bnd_eq e_u5.symm h
  refine lv_iinc (v := l5 + 1) (lv' := [(5, .int (l5 + 1)), (6, .int s0), (0, .ref h0), (1, .ref h6), (2, .int l2), (3, .int l3), (4, .int l4)]) hx hb dX10_goesOn_118 hl (k := 6) rfl rfl (by decide) rfl (fun ls hl => ?_)
  refine lv_goto (tgt := 3) hx hb dX10_goesOn_121 (by decide) ?_
  exact hk u5 l2 l3 l4 (l5 + 1) _ _ _ (hcy) h (hP.sub [0, 1, 2, 3, 4, 5, 6] rfl) (hD.sub [0, 1, 2, 3, 4, 5, 6] (by decide) rfl) hS (lv_sub hl [2, 3, 4, 5, 6, 0] rfl)
set_option maxHeartbeats 4000000 in
set_option maxRecDepth 100000 in
theorem k_X10_goesOn_b54 {p : Program} {l : Launch} {e : Env} {s : State} {m : MethodId} {args : Array Value} {below : List Frame} {meth : Method} {c : Code} {D : va_G} {cI cJ cC : ClassId} {h0 h1 h2 h3 h4 h5 h6 kthis_now kthis_trial : Nat} {v0_phases v0_has v0_thrown : Int32} {r1 r2 r3 r4 r5 : Nat → Int32} {t0 : Nat → Int64}{A : Nat → Prop} (S : CallFix p m c cX10_goesOn 7 s args TB RX10) (hr : meth.sig.returnType = none) (hlk : meth.locks = false) (hK : va_K D vwCl (ty3 cI cJ cC) s) (hA : ∀ q : Nat, s.heap.size ≤ q → A q) {K : (Nat → Int64) → Int32 → Int32 → Int32 → Int32 → Option (Nat → Int64)} {n : Nat} (hk : ∀ (r6 : Nat → Int64) (l2 l3 l4 l5 : Int32) (H : Heap) (locs : List Loc) (ls : Array Slot), (l2.toInt - l5.toInt).toNat < n → K r6 l2 l3 l4 l5 = some t0 → va_P D vwCl [(h0, .inr (10, [.ref h4, .ref h5, .ref h2, .ref h3, .ref h1, .int v0_phases, .ref kthis_now, .ref kthis_trial, .int v0_has, .int v0_thrown])), (h1, .inl (cI, 20, .inl r1)), (h2, .inl (cI, 2, .inl r2)), (h3, .inl (cI, 20, .inl r3)), (h4, .inl (cI, 15, .inl r4)), (h5, .inl (cI, 12, .inl r5)), (h6, .inl (cJ, 760, .inr (.inl r6)))] H → va_D A [(h0, .inr (10, [.ref h4, .ref h5, .ref h2, .ref h3, .ref h1, .int v0_phases, .ref kthis_now, .ref kthis_trial, .int v0_has, .int v0_thrown])), (h1, .inl (cI, 20, .inl r1)), (h2, .inl (cI, 2, .inl r2)), (h3, .inl (cI, 20, .inl r3)), (h4, .inl (cI, 15, .inl r4)), (h5, .inl (cI, 12, .inl r5)), (h6, .inl (cJ, 760, .inr (.inl r6)))] → va_S A s.heap H locs → lv_has ls 7 [(0, .ref h0), (1, .ref h6), (2, .int l2), (3, .int l3), (4, .int l4), (5, .int l5)] → W p l e rm_X10_goesOn s m args below meth c H locs 0 0 (MQ below (QW none D [(h0, .inr (10, [.ref h4, .ref h5, .ref h2, .ref h3, .ref h1, .int v0_phases, .ref kthis_now, .ref kthis_trial, .int v0_has, .int v0_thrown])), (h1, .inl (cI, 20, .inl r1)), (h2, .inl (cI, 2, .inl r2)), (h3, .inl (cI, 20, .inl r3)), (h4, .inl (cI, 15, .inl r4)), (h5, .inl (cI, 12, .inl r5)), (h6, .inl (cJ, 760, .inr (.inl t0)))] A) args s 0 0 A) (F0 m 3 ls [])) : ∀ (r6 : Nat → Int64) (l2 l3 l4 l5 : Int32) (H : Heap) (locs : List Loc) (ls : Array Slot), (l2.toInt - (l5 + 1).toInt).toNat < n → f_X10_goesOn_b54 r2 r4 r5 K r6 l2 l3 l4 l5 = some t0 → va_P D vwCl [(h0, .inr (10, [.ref h4, .ref h5, .ref h2, .ref h3, .ref h1, .int v0_phases, .ref kthis_now, .ref kthis_trial, .int v0_has, .int v0_thrown])), (h1, .inl (cI, 20, .inl r1)), (h2, .inl (cI, 2, .inl r2)), (h3, .inl (cI, 20, .inl r3)), (h4, .inl (cI, 15, .inl r4)), (h5, .inl (cI, 12, .inl r5)), (h6, .inl (cJ, 760, .inr (.inl r6)))] H → va_D A [(h0, .inr (10, [.ref h4, .ref h5, .ref h2, .ref h3, .ref h1, .int v0_phases, .ref kthis_now, .ref kthis_trial, .int v0_has, .int v0_thrown])), (h1, .inl (cI, 20, .inl r1)), (h2, .inl (cI, 2, .inl r2)), (h3, .inl (cI, 20, .inl r3)), (h4, .inl (cI, 15, .inl r4)), (h5, .inl (cI, 12, .inl r5)), (h6, .inl (cJ, 760, .inr (.inl r6)))] → va_S A s.heap H locs → lv_has ls 7 [(0, .ref h0), (1, .ref h6), (2, .int l2), (3, .int l3), (4, .int l4), (5, .int l5)] → W p l e rm_X10_goesOn s m args below meth c H locs 0 0 (MQ below (QW none D [(h0, .inr (10, [.ref h4, .ref h5, .ref h2, .ref h3, .ref h1, .int v0_phases, .ref kthis_now, .ref kthis_trial, .int v0_has, .int v0_thrown])), (h1, .inl (cI, 20, .inl r1)), (h2, .inl (cI, 2, .inl r2)), (h3, .inl (cI, 20, .inl r3)), (h4, .inl (cI, 15, .inl r4)), (h5, .inl (cI, 12, .inl r5)), (h6, .inl (cJ, 760, .inr (.inl t0)))] A) args s 0 0 A) (F0 m 54 ls []) := by
  have hx := S.1
  have hb := S.2.1
  intro r6 l2 l3 l4 l5 H locs ls hcy h hP hD hS hl
  refine lv_aload_n hx hb dX10_goesOn_54 rfl (lv_at hl 0 rfl) ?_
  refine lv_aload_n hx hb dX10_goesOn_55 rfl (lv_at hl 1 rfl) ?_
  refine lv_iload hx hb dX10_goesOn_56 (lv_at hl 4 rfl) ?_
  obtain ⟨u1, e_u1, h⟩ := obnd_eq h
  refine wrV (pc1 := 61) (rest := []) (st1 := []) (wr := [(h1, .inl (cI, 20, .inl r1)), (h3, .inl (cI, 20, .inl r3))]) S (c_X10_plays l D cI cJ cC h0 h2 h4 h5 h6 h3 h1 kthis_now kthis_trial v0_phases v0_has v0_thrown r2 r4 r5 r6 H.size l4 u1 e_u1) (cw_X10_161 S.2.2.2.2 ⟨Nat.le_of_ble_eq_true rfl, Nat.le_of_ble_eq_true rfl⟩) hK hP hD hS hA [0, 2, 4, 5, 6] [1, 3] rfl rfl rfl (by decide) (by decide) (by decide) rfl rfl rfl rfl hl.1 rfl (Nat.le_of_ble_eq_true rfl) ⟨Nat.zero_le _, Nat.zero_le _⟩ rfl rfl dX10_goesOn_58 (fun H locs hP hD hS => ?_)
  have hP : va_P D vwCl [(h1, .inl (cI, 20, .inl r1)), (h3, .inl (cI, 20, .inl r3)), (h0, .inr (10, [.ref h4, .ref h5, .ref h2, .ref h3, .ref h1, .int v0_phases, .ref kthis_now, .ref kthis_trial, .int v0_has, .int v0_thrown])), (h2, .inl (cI, 2, .inl r2)), (h4, .inl (cI, 15, .inl r4)), (h5, .inl (cI, 12, .inl r5)), (h6, .inl (cJ, 760, .inr (.inl u1)))] H := hP
  have hD : va_D A [(h1, .inl (cI, 20, .inl r1)), (h3, .inl (cI, 20, .inl r3)), (h0, .inr (10, [.ref h4, .ref h5, .ref h2, .ref h3, .ref h1, .int v0_phases, .ref kthis_now, .ref kthis_trial, .int v0_has, .int v0_thrown])), (h2, .inl (cI, 2, .inl r2)), (h4, .inl (cI, 15, .inl r4)), (h5, .inl (cI, 12, .inl r5)), (h6, .inl (cJ, 760, .inr (.inl u1)))] := hD
  refine lv_aload_n hx hb dX10_goesOn_61 rfl (lv_at hl 1 rfl) ?_
  refine lv_iconst (v := 2) hx hb dX10_goesOn_62 li_2 ?_
  refine aldJ (k := 2) (q0 := 6) S hK hP rfl vl_2_760 tn_2 dX10_goesOn_63 ?_
  refine lv_ldc2 (v := 4) hx hb S.2.2.2.1 (S.2.2.2.2 _ tb1128) dX10_goesOn_64 ?_
  refine lc_eq (tgt := 111) hx hb dX10_goesOn_67 dX10_goesOn_68 (by decide) (fun c2 => ?_) (fun c2 => ?_)
  · have h := iteP c2 h
    refine lv_aload_n hx hb dX10_goesOn_111 rfl (lv_at hl 1 rfl) ?_
    refine lv_iconst (v := 0) hx hb dX10_goesOn_112 li_0 ?_
    refine lv_dup2_11 hx hb dX10_goesOn_113 rfl rfl ?_
    refine aldJ (k := 0) (q0 := 6) S hK hP rfl vl_0_760 tn_0 dX10_goesOn_114 ?_
    refine lv_lconst (v := 1) hx hb dX10_goesOn_115 rfl ?_
    refine lv_ladd hx hb dX10_goesOn_116 ?_
    refine astJ (k := 0) (q0 := 6) S hK hP hD hS rfl vl_0_760 tn_0 dX10_goesOn_117 (fun H locs hP hD hS => ?_)
    have hP : va_P D vwCl [(h1, .inl (cI, 20, .inl r1)), (h3, .inl (cI, 20, .inl r3)), (h0, .inr (10, [.ref h4, .ref h5, .ref h2, .ref h3, .ref h1, .int v0_phases, .ref kthis_now, .ref kthis_trial, .int v0_has, .int v0_thrown])), (h2, .inl (cI, 2, .inl r2)), (h4, .inl (cI, 15, .inl r4)), (h5, .inl (cI, 12, .inl r5)), (h6, .inl (cJ, 760, .inr (.inl (vp_updL u1 0 ((u1 0) + 1)))))] H := hP
    have hD : va_D A [(h1, .inl (cI, 20, .inl r1)), (h3, .inl (cI, 20, .inl r3)), (h0, .inr (10, [.ref h4, .ref h5, .ref h2, .ref h3, .ref h1, .int v0_phases, .ref kthis_now, .ref kthis_trial, .int v0_has, .int v0_thrown])), (h2, .inl (cI, 2, .inl r2)), (h4, .inl (cI, 15, .inl r4)), (h5, .inl (cI, 12, .inl r5)), (h6, .inl (cJ, 760, .inr (.inl (vp_updL u1 0 ((u1 0) + 1)))))] := hD
    obtain ⟨u3, e_u3⟩ : ∃ z, z = vp_updL u1 0 ((u1 0) + 1) := ⟨_, rfl⟩
    rw [← e_u3] at hP hD
    have h := bnd_eq e_u3.symm h
    refine lv_iinc (v := l5 + 1) (lv' := [(5, .int (l5 + 1)), (0, .ref h0), (1, .ref h6), (2, .int l2), (3, .int l3), (4, .int l4)]) hx hb dX10_goesOn_118 hl (k := 5) rfl rfl (by decide) rfl (fun ls hl => ?_)
    refine lv_goto (tgt := 3) hx hb dX10_goesOn_121 (by decide) ?_
    exact hk u3 l2 l3 l4 (l5 + 1) _ _ _ (hcy) h (hP.sub [2, 0, 3, 1, 4, 5, 6] rfl) (hD.sub [2, 0, 3, 1, 4, 5, 6] (by decide) rfl) hS (lv_sub hl [1, 2, 3, 4, 5, 0] rfl)
  · have h := iteN c2 h
    refine lv_aload_n hx hb dX10_goesOn_71 rfl (lv_at hl 1 rfl) ?_
    refine lv_iconst (v := 2) hx hb dX10_goesOn_72 li_2 ?_
    refine aldJ (k := 2) (q0 := 6) S hK hP rfl vl_2_760 tn_2 dX10_goesOn_73 ?_
    refine lv_lconst (v := 1) hx hb dX10_goesOn_74 rfl ?_
    refine lc_ne (tgt := 83) hx hb dX10_goesOn_75 dX10_goesOn_76 (by decide) (fun c4 => ?_) (fun c4 => ?_)
    · have h := iteN c4 h
      refine lv_aload_n hx hb dX10_goesOn_83 rfl (lv_at hl 1 rfl) ?_
      refine lv_iconst (v := 2) hx hb dX10_goesOn_84 li_2 ?_
      refine aldJ (k := 2) (q0 := 6) S hK hP rfl vl_2_760 tn_2 dX10_goesOn_85 ?_
      refine lv_ldc2 (v := 3) hx hb S.2.2.2.1 (S.2.2.2.2 _ tb1047) dX10_goesOn_86 ?_
      refine lc_ne (tgt := 97) hx hb dX10_goesOn_89 dX10_goesOn_90 (by decide) (fun c5 => ?_) (fun c5 => ?_)
      · have h := iteN c5 h
        refine lv_iconst (v := 2) hx hb dX10_goesOn_97 li_2 ?_
        exact k_X10_goesOn_b98 S hr hlk hK hA hk u1 l2 l3 l4 l5 2 _ _ _ hcy h (hP.sub [2, 0, 3, 1, 4, 5, 6] rfl) (hD.sub [2, 0, 3, 1, 4, 5, 6] (by decide) rfl) hS (lv_sub hl [0, 1, 2, 3, 4, 5] rfl)
      · have h := iteP c5 h
        refine lv_iconst (v := 1) hx hb dX10_goesOn_93 li_1 ?_
        refine lv_goto (tgt := 98) hx hb dX10_goesOn_94 (by decide) ?_
        exact k_X10_goesOn_b98 S hr hlk hK hA hk u1 l2 l3 l4 l5 1 _ _ _ hcy h (hP.sub [2, 0, 3, 1, 4, 5, 6] rfl) (hD.sub [2, 0, 3, 1, 4, 5, 6] (by decide) rfl) hS (lv_sub hl [0, 1, 2, 3, 4, 5] rfl)
    · have h := iteP c4 h
      refine lv_iconst (v := 0) hx hb dX10_goesOn_79 li_0 ?_
      refine lv_goto (tgt := 98) hx hb dX10_goesOn_80 (by decide) ?_
      exact k_X10_goesOn_b98 S hr hlk hK hA hk u1 l2 l3 l4 l5 0 _ _ _ hcy h (hP.sub [2, 0, 3, 1, 4, 5, 6] rfl) (hD.sub [2, 0, 3, 1, 4, 5, 6] (by decide) rfl) hS (lv_sub hl [0, 1, 2, 3, 4, 5] rfl)
set_option maxHeartbeats 4000000 in
set_option maxRecDepth 100000 in
theorem k_X10_goesOn_b41 {p : Program} {l : Launch} {e : Env} {s : State} {m : MethodId} {args : Array Value} {below : List Frame} {meth : Method} {c : Code} {D : va_G} {cI cJ cC : ClassId} {h0 h1 h2 h3 h4 h5 h6 kthis_now kthis_trial : Nat} {v0_phases v0_has v0_thrown : Int32} {r1 r2 r3 r4 r5 : Nat → Int32} {t0 : Nat → Int64}{A : Nat → Prop} (S : CallFix p m c cX10_goesOn 7 s args TB RX10) (hr : meth.sig.returnType = none) (hlk : meth.locks = false) (hK : va_K D vwCl (ty3 cI cJ cC) s) (hA : ∀ q : Nat, s.heap.size ≤ q → A q) {K : (Nat → Int64) → Int32 → Int32 → Int32 → Int32 → Option (Nat → Int64)} {n : Nat} (hk : ∀ (r6 : Nat → Int64) (l2 l3 l4 l5 : Int32) (H : Heap) (locs : List Loc) (ls : Array Slot), (l2.toInt - l5.toInt).toNat < n → K r6 l2 l3 l4 l5 = some t0 → va_P D vwCl [(h0, .inr (10, [.ref h4, .ref h5, .ref h2, .ref h3, .ref h1, .int v0_phases, .ref kthis_now, .ref kthis_trial, .int v0_has, .int v0_thrown])), (h1, .inl (cI, 20, .inl r1)), (h2, .inl (cI, 2, .inl r2)), (h3, .inl (cI, 20, .inl r3)), (h4, .inl (cI, 15, .inl r4)), (h5, .inl (cI, 12, .inl r5)), (h6, .inl (cJ, 760, .inr (.inl r6)))] H → va_D A [(h0, .inr (10, [.ref h4, .ref h5, .ref h2, .ref h3, .ref h1, .int v0_phases, .ref kthis_now, .ref kthis_trial, .int v0_has, .int v0_thrown])), (h1, .inl (cI, 20, .inl r1)), (h2, .inl (cI, 2, .inl r2)), (h3, .inl (cI, 20, .inl r3)), (h4, .inl (cI, 15, .inl r4)), (h5, .inl (cI, 12, .inl r5)), (h6, .inl (cJ, 760, .inr (.inl r6)))] → va_S A s.heap H locs → lv_has ls 7 [(0, .ref h0), (1, .ref h6), (2, .int l2), (3, .int l3), (4, .int l4), (5, .int l5)] → W p l e rm_X10_goesOn s m args below meth c H locs 0 0 (MQ below (QW none D [(h0, .inr (10, [.ref h4, .ref h5, .ref h2, .ref h3, .ref h1, .int v0_phases, .ref kthis_now, .ref kthis_trial, .int v0_has, .int v0_thrown])), (h1, .inl (cI, 20, .inl r1)), (h2, .inl (cI, 2, .inl r2)), (h3, .inl (cI, 20, .inl r3)), (h4, .inl (cI, 15, .inl r4)), (h5, .inl (cI, 12, .inl r5)), (h6, .inl (cJ, 760, .inr (.inl t0)))] A) args s 0 0 A) (F0 m 3 ls [])) : ∀ (r6 : Nat → Int64) (l2 l3 l4 l5 : Int32) (H : Heap) (locs : List Loc) (ls : Array Slot), (l2.toInt - (l5 + 1).toInt).toNat < n → f_X10_goesOn_b41 r2 r4 r5 K r6 l2 l3 l4 l5 = some t0 → va_P D vwCl [(h0, .inr (10, [.ref h4, .ref h5, .ref h2, .ref h3, .ref h1, .int v0_phases, .ref kthis_now, .ref kthis_trial, .int v0_has, .int v0_thrown])), (h1, .inl (cI, 20, .inl r1)), (h2, .inl (cI, 2, .inl r2)), (h3, .inl (cI, 20, .inl r3)), (h4, .inl (cI, 15, .inl r4)), (h5, .inl (cI, 12, .inl r5)), (h6, .inl (cJ, 760, .inr (.inl r6)))] H → va_D A [(h0, .inr (10, [.ref h4, .ref h5, .ref h2, .ref h3, .ref h1, .int v0_phases, .ref kthis_now, .ref kthis_trial, .int v0_has, .int v0_thrown])), (h1, .inl (cI, 20, .inl r1)), (h2, .inl (cI, 2, .inl r2)), (h3, .inl (cI, 20, .inl r3)), (h4, .inl (cI, 15, .inl r4)), (h5, .inl (cI, 12, .inl r5)), (h6, .inl (cJ, 760, .inr (.inl r6)))] → va_S A s.heap H locs → lv_has ls 7 [(0, .ref h0), (1, .ref h6), (2, .int l2), (3, .int l3), (4, .int l4), (5, .int l5)] → W p l e rm_X10_goesOn s m args below meth c H locs 0 0 (MQ below (QW none D [(h0, .inr (10, [.ref h4, .ref h5, .ref h2, .ref h3, .ref h1, .int v0_phases, .ref kthis_now, .ref kthis_trial, .int v0_has, .int v0_thrown])), (h1, .inl (cI, 20, .inl r1)), (h2, .inl (cI, 2, .inl r2)), (h3, .inl (cI, 20, .inl r3)), (h4, .inl (cI, 15, .inl r4)), (h5, .inl (cI, 12, .inl r5)), (h6, .inl (cJ, 760, .inr (.inl t0)))] A) args s 0 0 A) (F0 m 41 ls []) := by
  have hx := S.1
  have hb := S.2.1
  intro r6 l2 l3 l4 l5 H locs ls hcy h hP hD hS hl
  refine lv_aload_n hx hb dX10_goesOn_41 rfl (lv_at hl 1 rfl) ?_
  refine lv_iconst (v := 5) hx hb dX10_goesOn_42 li_5 ?_
  refine aldJ (k := 5) (q0 := 6) S hK hP rfl vl_5_760 tn_5 dX10_goesOn_43 ?_
  refine lv_lconst (v := 1) hx hb dX10_goesOn_44 rfl ?_
  refine lc_ne (tgt := 54) hx hb dX10_goesOn_45 dX10_goesOn_46 (by decide) (fun c1 => ?_) (fun c1 => ?_)
  · have h := iteN c1 h
    exact k_X10_goesOn_b54 S hr hlk hK hA hk r6 l2 l3 l4 l5 _ _ _ hcy h (hP.sub [0, 1, 2, 3, 4, 5, 6] rfl) (hD.sub [0, 1, 2, 3, 4, 5, 6] (by decide) rfl) hS (lv_sub hl [0, 1, 2, 3, 4, 5] rfl)
  · have h := iteP c1 h
    refine lv_aload_n hx hb dX10_goesOn_49 rfl (lv_at hl 0 rfl) ?_
    refine lv_aload_n hx hb dX10_goesOn_50 rfl (lv_at hl 1 rfl) ?_
    obtain ⟨u2, e_u2, h⟩ := obnd_eq h
    refine wrV (pc1 := 54) (rest := []) (st1 := []) (wr := [(h1, .inl (cI, 20, .inl r1)), (h2, .inl (cI, 2, .inl r2)), (h3, .inl (cI, 20, .inl r3))]) S (c_X10_givesUp l D cI cJ cC h0 h4 h5 h6 h2 h3 h1 kthis_now kthis_trial v0_phases v0_has v0_thrown r4 r5 r6 H.size  u2 e_u2) (cw_X10_158 S.2.2.2.2 ⟨Nat.le_of_ble_eq_true rfl, Nat.le_of_ble_eq_true rfl⟩) hK hP hD hS hA [0, 4, 5, 6] [1, 2, 3] rfl rfl rfl (by decide) (by decide) (by decide) rfl rfl rfl rfl hl.1 rfl (Nat.le_of_ble_eq_true rfl) ⟨Nat.zero_le _, Nat.zero_le _⟩ rfl rfl dX10_goesOn_51 (fun H locs hP hD hS => ?_)
    have hP : va_P D vwCl [(h1, .inl (cI, 20, .inl r1)), (h2, .inl (cI, 2, .inl r2)), (h3, .inl (cI, 20, .inl r3)), (h0, .inr (10, [.ref h4, .ref h5, .ref h2, .ref h3, .ref h1, .int v0_phases, .ref kthis_now, .ref kthis_trial, .int v0_has, .int v0_thrown])), (h4, .inl (cI, 15, .inl r4)), (h5, .inl (cI, 12, .inl r5)), (h6, .inl (cJ, 760, .inr (.inl u2)))] H := hP
    have hD : va_D A [(h1, .inl (cI, 20, .inl r1)), (h2, .inl (cI, 2, .inl r2)), (h3, .inl (cI, 20, .inl r3)), (h0, .inr (10, [.ref h4, .ref h5, .ref h2, .ref h3, .ref h1, .int v0_phases, .ref kthis_now, .ref kthis_trial, .int v0_has, .int v0_thrown])), (h4, .inl (cI, 15, .inl r4)), (h5, .inl (cI, 12, .inl r5)), (h6, .inl (cJ, 760, .inr (.inl u2)))] := hD
    exact k_X10_goesOn_b54 S hr hlk hK hA hk u2 l2 l3 l4 l5 _ _ _ hcy h (hP.sub [3, 0, 1, 2, 4, 5, 6] rfl) (hD.sub [3, 0, 1, 2, 4, 5, 6] (by decide) rfl) hS (lv_sub hl [0, 1, 2, 3, 4, 5] rfl)
set_option maxHeartbeats 4000000 in
set_option maxRecDepth 100000 in
theorem k_X10_goesOn_b28 {p : Program} {l : Launch} {e : Env} {s : State} {m : MethodId} {args : Array Value} {below : List Frame} {meth : Method} {c : Code} {D : va_G} {cI cJ cC : ClassId} {h0 h1 h2 h3 h4 h5 h6 kthis_now kthis_trial : Nat} {v0_phases v0_has v0_thrown : Int32} {r1 r2 r3 r4 r5 : Nat → Int32} {t0 : Nat → Int64}{A : Nat → Prop} (S : CallFix p m c cX10_goesOn 7 s args TB RX10) (hr : meth.sig.returnType = none) (hlk : meth.locks = false) (hK : va_K D vwCl (ty3 cI cJ cC) s) (hA : ∀ q : Nat, s.heap.size ≤ q → A q) {K : (Nat → Int64) → Int32 → Int32 → Int32 → Int32 → Option (Nat → Int64)} {n : Nat} (hk : ∀ (r6 : Nat → Int64) (l2 l3 l4 l5 : Int32) (H : Heap) (locs : List Loc) (ls : Array Slot), (l2.toInt - l5.toInt).toNat < n → K r6 l2 l3 l4 l5 = some t0 → va_P D vwCl [(h0, .inr (10, [.ref h4, .ref h5, .ref h2, .ref h3, .ref h1, .int v0_phases, .ref kthis_now, .ref kthis_trial, .int v0_has, .int v0_thrown])), (h1, .inl (cI, 20, .inl r1)), (h2, .inl (cI, 2, .inl r2)), (h3, .inl (cI, 20, .inl r3)), (h4, .inl (cI, 15, .inl r4)), (h5, .inl (cI, 12, .inl r5)), (h6, .inl (cJ, 760, .inr (.inl r6)))] H → va_D A [(h0, .inr (10, [.ref h4, .ref h5, .ref h2, .ref h3, .ref h1, .int v0_phases, .ref kthis_now, .ref kthis_trial, .int v0_has, .int v0_thrown])), (h1, .inl (cI, 20, .inl r1)), (h2, .inl (cI, 2, .inl r2)), (h3, .inl (cI, 20, .inl r3)), (h4, .inl (cI, 15, .inl r4)), (h5, .inl (cI, 12, .inl r5)), (h6, .inl (cJ, 760, .inr (.inl r6)))] → va_S A s.heap H locs → lv_has ls 7 [(0, .ref h0), (1, .ref h6), (2, .int l2), (3, .int l3), (4, .int l4), (5, .int l5)] → W p l e rm_X10_goesOn s m args below meth c H locs 0 0 (MQ below (QW none D [(h0, .inr (10, [.ref h4, .ref h5, .ref h2, .ref h3, .ref h1, .int v0_phases, .ref kthis_now, .ref kthis_trial, .int v0_has, .int v0_thrown])), (h1, .inl (cI, 20, .inl r1)), (h2, .inl (cI, 2, .inl r2)), (h3, .inl (cI, 20, .inl r3)), (h4, .inl (cI, 15, .inl r4)), (h5, .inl (cI, 12, .inl r5)), (h6, .inl (cJ, 760, .inr (.inl t0)))] A) args s 0 0 A) (F0 m 3 ls [])) : ∀ (r6 : Nat → Int64) (l2 l3 l4 l5 : Int32) (H : Heap) (locs : List Loc) (ls : Array Slot), (l2.toInt - (l5 + 1).toInt).toNat < n → f_X10_goesOn_b28 v0_phases r1 r2 r3 r4 r5 K r6 l2 l3 l4 l5 = some t0 → va_P D vwCl [(h0, .inr (10, [.ref h4, .ref h5, .ref h2, .ref h3, .ref h1, .int v0_phases, .ref kthis_now, .ref kthis_trial, .int v0_has, .int v0_thrown])), (h1, .inl (cI, 20, .inl r1)), (h2, .inl (cI, 2, .inl r2)), (h3, .inl (cI, 20, .inl r3)), (h4, .inl (cI, 15, .inl r4)), (h5, .inl (cI, 12, .inl r5)), (h6, .inl (cJ, 760, .inr (.inl r6)))] H → va_D A [(h0, .inr (10, [.ref h4, .ref h5, .ref h2, .ref h3, .ref h1, .int v0_phases, .ref kthis_now, .ref kthis_trial, .int v0_has, .int v0_thrown])), (h1, .inl (cI, 20, .inl r1)), (h2, .inl (cI, 2, .inl r2)), (h3, .inl (cI, 20, .inl r3)), (h4, .inl (cI, 15, .inl r4)), (h5, .inl (cI, 12, .inl r5)), (h6, .inl (cJ, 760, .inr (.inl r6)))] → va_S A s.heap H locs → lv_has ls 7 [(0, .ref h0), (1, .ref h6), (2, .int l2), (3, .int l3), (4, .int l4), (5, .int l5)] → W p l e rm_X10_goesOn s m args below meth c H locs 0 0 (MQ below (QW none D [(h0, .inr (10, [.ref h4, .ref h5, .ref h2, .ref h3, .ref h1, .int v0_phases, .ref kthis_now, .ref kthis_trial, .int v0_has, .int v0_thrown])), (h1, .inl (cI, 20, .inl r1)), (h2, .inl (cI, 2, .inl r2)), (h3, .inl (cI, 20, .inl r3)), (h4, .inl (cI, 15, .inl r4)), (h5, .inl (cI, 12, .inl r5)), (h6, .inl (cJ, 760, .inr (.inl t0)))] A) args s 0 0 A) (F0 m 28 ls []) := by
  have hx := S.1
  have hb := S.2.1
  intro r6 l2 l3 l4 l5 H locs ls hcy h hP hD hS hl
  refine lv_aload_n hx hb dX10_goesOn_28 rfl (lv_at hl 1 rfl) ?_
  refine lv_iconst (v := 5) hx hb dX10_goesOn_29 li_5 ?_
  refine aldJ (k := 5) (q0 := 6) S hK hP rfl vl_5_760 tn_5 dX10_goesOn_30 ?_
  refine lv_lconst (v := 1) hx hb dX10_goesOn_31 rfl ?_
  refine lc_ne (tgt := 41) hx hb dX10_goesOn_32 dX10_goesOn_33 (by decide) (fun c1 => ?_) (fun c1 => ?_)
  · have h := iteN c1 h
    exact k_X10_goesOn_b41 S hr hlk hK hA hk r6 l2 l3 l4 l5 _ _ _ hcy h (hP.sub [0, 1, 2, 3, 4, 5, 6] rfl) (hD.sub [0, 1, 2, 3, 4, 5, 6] (by decide) rfl) hS (lv_sub hl [0, 1, 2, 3, 4, 5] rfl)
  · have h := iteP c1 h
    refine lv_aload_n hx hb dX10_goesOn_36 rfl (lv_at hl 0 rfl) ?_
    refine lv_aload_n hx hb dX10_goesOn_37 rfl (lv_at hl 1 rfl) ?_
    obtain ⟨u2, e_u2, h⟩ := obnd_eq h
    refine wrV (pc1 := 41) (rest := []) (st1 := []) (wr := [(h2, .inl (cI, 2, .inl r2)), (h4, .inl (cI, 15, .inl r4)), (h5, .inl (cI, 12, .inl r5))]) S (c_X10_receives l D cI cJ cC h0 h1 h3 h6 h4 h5 h2 kthis_now kthis_trial v0_phases v0_has v0_thrown r1 r3 r6 H.size  u2 e_u2) (cw_X10_155 S.2.2.2.2 ⟨Nat.le_of_ble_eq_true rfl, Nat.le_of_ble_eq_true rfl⟩) hK hP hD hS hA [0, 1, 3, 6] [2, 4, 5] rfl rfl rfl (by decide) (by decide) (by decide) rfl rfl rfl rfl hl.1 rfl (Nat.le_of_ble_eq_true rfl) ⟨Nat.zero_le _, Nat.zero_le _⟩ rfl rfl dX10_goesOn_38 (fun H locs hP hD hS => ?_)
    have hP : va_P D vwCl [(h2, .inl (cI, 2, .inl r2)), (h4, .inl (cI, 15, .inl r4)), (h5, .inl (cI, 12, .inl r5)), (h0, .inr (10, [.ref h4, .ref h5, .ref h2, .ref h3, .ref h1, .int v0_phases, .ref kthis_now, .ref kthis_trial, .int v0_has, .int v0_thrown])), (h1, .inl (cI, 20, .inl r1)), (h3, .inl (cI, 20, .inl r3)), (h6, .inl (cJ, 760, .inr (.inl u2)))] H := hP
    have hD : va_D A [(h2, .inl (cI, 2, .inl r2)), (h4, .inl (cI, 15, .inl r4)), (h5, .inl (cI, 12, .inl r5)), (h0, .inr (10, [.ref h4, .ref h5, .ref h2, .ref h3, .ref h1, .int v0_phases, .ref kthis_now, .ref kthis_trial, .int v0_has, .int v0_thrown])), (h1, .inl (cI, 20, .inl r1)), (h3, .inl (cI, 20, .inl r3)), (h6, .inl (cJ, 760, .inr (.inl u2)))] := hD
    exact k_X10_goesOn_b41 S hr hlk hK hA hk u2 l2 l3 l4 l5 _ _ _ hcy h (hP.sub [3, 4, 0, 5, 1, 2, 6] rfl) (hD.sub [3, 4, 0, 5, 1, 2, 6] (by decide) rfl) hS (lv_sub hl [0, 1, 2, 3, 4, 5] rfl)
set_option maxHeartbeats 4000000 in
set_option maxRecDepth 100000 in
theorem k_X10_goesOn_b3 {p : Program} {l : Launch} {e : Env} {s : State} {m : MethodId} {args : Array Value} {below : List Frame} {meth : Method} {c : Code} {D : va_G} {cI cJ cC : ClassId} {h0 h1 h2 h3 h4 h5 h6 kthis_now kthis_trial : Nat} {v0_phases v0_has v0_thrown : Int32} {r1 r2 r3 r4 r5 : Nat → Int32} {t0 : Nat → Int64}{A : Nat → Prop} (S : CallFix p m c cX10_goesOn 7 s args TB RX10) (hr : meth.sig.returnType = none) (hlk : meth.locks = false) (hK : va_K D vwCl (ty3 cI cJ cC) s) (hA : ∀ q : Nat, s.heap.size ≤ q → A q) : ∀ (n : Nat) (r6 : Nat → Int64) (l2 l3 l4 l5 : Int32) (H : Heap) (locs : List Loc) (ls : Array Slot), (l2.toInt - l5.toInt).toNat < n → f_X10_goesOn_b3 v0_phases r1 r2 r3 r4 r5 n r6 l2 l3 l4 l5 = some t0 → va_P D vwCl [(h0, .inr (10, [.ref h4, .ref h5, .ref h2, .ref h3, .ref h1, .int v0_phases, .ref kthis_now, .ref kthis_trial, .int v0_has, .int v0_thrown])), (h1, .inl (cI, 20, .inl r1)), (h2, .inl (cI, 2, .inl r2)), (h3, .inl (cI, 20, .inl r3)), (h4, .inl (cI, 15, .inl r4)), (h5, .inl (cI, 12, .inl r5)), (h6, .inl (cJ, 760, .inr (.inl r6)))] H → va_D A [(h0, .inr (10, [.ref h4, .ref h5, .ref h2, .ref h3, .ref h1, .int v0_phases, .ref kthis_now, .ref kthis_trial, .int v0_has, .int v0_thrown])), (h1, .inl (cI, 20, .inl r1)), (h2, .inl (cI, 2, .inl r2)), (h3, .inl (cI, 20, .inl r3)), (h4, .inl (cI, 15, .inl r4)), (h5, .inl (cI, 12, .inl r5)), (h6, .inl (cJ, 760, .inr (.inl r6)))] → va_S A s.heap H locs → lv_has ls 7 [(0, .ref h0), (1, .ref h6), (2, .int l2), (3, .int l3), (4, .int l4), (5, .int l5)] → W p l e rm_X10_goesOn s m args below meth c H locs 0 0 (MQ below (QW none D [(h0, .inr (10, [.ref h4, .ref h5, .ref h2, .ref h3, .ref h1, .int v0_phases, .ref kthis_now, .ref kthis_trial, .int v0_has, .int v0_thrown])), (h1, .inl (cI, 20, .inl r1)), (h2, .inl (cI, 2, .inl r2)), (h3, .inl (cI, 20, .inl r3)), (h4, .inl (cI, 15, .inl r4)), (h5, .inl (cI, 12, .inl r5)), (h6, .inl (cJ, 760, .inr (.inl t0)))] A) args s 0 0 A) (F0 m 3 ls []) := by
  have hx := S.1
  have hb := S.2.1
  intro n
  induction n with
  | zero => intro r6 l2 l3 l4 l5 H locs ls  hmu; exact absurd hmu (Nat.not_lt_zero _)
  | succ n ih =>
    intro r6 l2 l3 l4 l5 H locs ls  hmu h hP hD hS hl
    refine lv_iload hx hb dX10_goesOn_3 (lv_at hl 5 rfl) ?_
    refine lv_iload_n hx hb dX10_goesOn_5 rfl (lv_at hl 2 rfl) ?_
    refine lv_icmp_ge (tgt := 124) hx hb dX10_goesOn_6 (by decide) (fun c1 => ?_) (fun c1 => ?_)
    · have h := iteP c1 h
      have h := Option.some.inj h
      subst h
      exact wRv S hr hlk (hP.sub [0, 1, 2, 3, 4, 5, 6] rfl) (hD.sub [0, 1, 2, 3, 4, 5, 6] (by decide) rfl) hS dX10_goesOn_124
    · have h := iteN c1 h
      refine lv_aload_n hx hb dX10_goesOn_9 rfl (lv_at hl 0 rfl) ?_
      refine lv_aload_n hx hb dX10_goesOn_10 rfl (lv_at hl 1 rfl) ?_
      obtain ⟨u2, e_u2, h⟩ := obnd_eq h
      refine wrV (pc1 := 14) (rest := []) (st1 := []) (wr := [(h1, .inl (cI, 20, .inl r1)), (h2, .inl (cI, 2, .inl r2)), (h3, .inl (cI, 20, .inl r3)), (h5, .inl (cI, 12, .inl r5))]) S (c_X10_tells l D cI cJ cC h0 h4 h6 h5 h2 h3 h1 kthis_now kthis_trial v0_phases v0_has v0_thrown r4 r6 H.size  u2 e_u2) (cw_X10_147 S.2.2.2.2 ⟨Nat.le_of_ble_eq_true rfl, Nat.le_of_ble_eq_true rfl⟩) hK hP hD hS hA [0, 4, 6] [1, 2, 3, 5] rfl rfl rfl (by decide) (by decide) (by decide) rfl rfl rfl rfl hl.1 rfl (Nat.le_of_ble_eq_true rfl) ⟨Nat.zero_le _, Nat.zero_le _⟩ rfl rfl dX10_goesOn_11 (fun H locs hP hD hS => ?_)
      have hP : va_P D vwCl [(h1, .inl (cI, 20, .inl r1)), (h2, .inl (cI, 2, .inl r2)), (h3, .inl (cI, 20, .inl r3)), (h5, .inl (cI, 12, .inl r5)), (h0, .inr (10, [.ref h4, .ref h5, .ref h2, .ref h3, .ref h1, .int v0_phases, .ref kthis_now, .ref kthis_trial, .int v0_has, .int v0_thrown])), (h4, .inl (cI, 15, .inl r4)), (h6, .inl (cJ, 760, .inr (.inl u2)))] H := hP
      have hD : va_D A [(h1, .inl (cI, 20, .inl r1)), (h2, .inl (cI, 2, .inl r2)), (h3, .inl (cI, 20, .inl r3)), (h5, .inl (cI, 12, .inl r5)), (h0, .inr (10, [.ref h4, .ref h5, .ref h2, .ref h3, .ref h1, .int v0_phases, .ref kthis_now, .ref kthis_trial, .int v0_has, .int v0_thrown])), (h4, .inl (cI, 15, .inl r4)), (h6, .inl (cJ, 760, .inr (.inl u2)))] := hD
      refine lv_aload_n hx hb dX10_goesOn_14 rfl (lv_at hl 1 rfl) ?_
      refine lv_iconst (v := 5) hx hb dX10_goesOn_15 li_5 ?_
      refine aldJ (k := 5) (q0 := 6) S hK hP rfl vl_5_760 tn_5 dX10_goesOn_16 ?_
      refine lv_lconst (v := 0) hx hb dX10_goesOn_17 rfl ?_
      refine lc_ne (tgt := 28) hx hb dX10_goesOn_18 dX10_goesOn_19 (by decide) (fun c3 => ?_) (fun c3 => ?_)
      · have h := iteN c3 h
        exact k_X10_goesOn_b28 S hr hlk hK hA ih u2 l2 l3 l4 l5 _ _ _ (by first | exact mu_upA (by assumption) hmu | exact mu_upB (by assumption) hmu) h (hP.sub [4, 0, 1, 2, 5, 3, 6] rfl) (hD.sub [4, 0, 1, 2, 5, 3, 6] (by decide) rfl) hS (lv_sub hl [0, 1, 2, 3, 4, 5] rfl)
      · have h := iteP c3 h
        refine lv_aload_n hx hb dX10_goesOn_22 rfl (lv_at hl 0 rfl) ?_
        refine lv_aload_n hx hb dX10_goesOn_23 rfl (lv_at hl 1 rfl) ?_
        refine lv_iload_n hx hb dX10_goesOn_24 rfl (lv_at hl 3 rfl) ?_
        obtain ⟨u4, e_u4, h⟩ := obnd_eq h
        refine wrV (pc1 := 28) (rest := []) (st1 := []) (wr := [(h1, .inl (cI, 20, .inl r1)), (h3, .inl (cI, 20, .inl r3))]) S (c_X10_looksForNext l D cI cJ cC h0 h2 h4 h5 h6 h3 h1 kthis_now kthis_trial v0_phases v0_has v0_thrown r2 r4 r5 u2 H.size l3 u4 e_u4) (cw_X10_151 S.2.2.2.2 ⟨Nat.le_of_ble_eq_true rfl, Nat.le_of_ble_eq_true rfl⟩) hK hP hD hS hA [4, 1, 5, 3, 6] [0, 2] rfl rfl rfl (by decide) (by decide) (by decide) rfl rfl rfl rfl hl.1 rfl (Nat.le_of_ble_eq_true rfl) ⟨Nat.zero_le _, Nat.zero_le _⟩ rfl rfl dX10_goesOn_25 (fun H locs hP hD hS => ?_)
        have hP : va_P D vwCl [(h1, .inl (cI, 20, .inl r1)), (h3, .inl (cI, 20, .inl r3)), (h0, .inr (10, [.ref h4, .ref h5, .ref h2, .ref h3, .ref h1, .int v0_phases, .ref kthis_now, .ref kthis_trial, .int v0_has, .int v0_thrown])), (h2, .inl (cI, 2, .inl r2)), (h4, .inl (cI, 15, .inl r4)), (h5, .inl (cI, 12, .inl r5)), (h6, .inl (cJ, 760, .inr (.inl u4)))] H := hP
        have hD : va_D A [(h1, .inl (cI, 20, .inl r1)), (h3, .inl (cI, 20, .inl r3)), (h0, .inr (10, [.ref h4, .ref h5, .ref h2, .ref h3, .ref h1, .int v0_phases, .ref kthis_now, .ref kthis_trial, .int v0_has, .int v0_thrown])), (h2, .inl (cI, 2, .inl r2)), (h4, .inl (cI, 15, .inl r4)), (h5, .inl (cI, 12, .inl r5)), (h6, .inl (cJ, 760, .inr (.inl u4)))] := hD
        exact k_X10_goesOn_b28 S hr hlk hK hA ih u4 l2 l3 l4 l5 _ _ _ (by first | exact mu_upA (by assumption) hmu | exact mu_upB (by assumption) hmu) h (hP.sub [2, 0, 3, 1, 4, 5, 6] rfl) (hD.sub [2, 0, 3, 1, 4, 5, 6] (by decide) rfl) hS (lv_sub hl [0, 1, 2, 3, 4, 5] rfl)
set_option maxHeartbeats 4000000 in
set_option maxRecDepth 100000 in
theorem c_X10_goesOn (l : Launch) (D : va_G) (cI cJ cC : ClassId) (h0 h1 h2 h3 h4 h5 h6 kthis_now kthis_trial : Nat) (v0_phases v0_has v0_thrown : Int32) (r1 r2 r3 r4 r5 : Nat → Int32) (r6 : Nat → Int64) (sz : Nat) (p1 p2 p3 : Int32) (t0 : Nat → Int64) (h : f_X10_goesOn v0_phases r1 r2 r3 r4 r5 r6 p1 p2 p3 = some t0) : Met l yX10_goesOn (Cond.code yX10_goesOn cX10_goesOn 7 none :: TB) rm_X10_goesOn (PreW D cI cJ cC [(h0, .inr (10, [.ref h4, .ref h5, .ref h2, .ref h3, .ref h1, .int v0_phases, .ref kthis_now, .ref kthis_trial, .int v0_has, .int v0_thrown])), (h1, .inl (cI, 20, .inl r1)), (h2, .inl (cI, 2, .inl r2)), (h3, .inl (cI, 20, .inl r3)), (h4, .inl (cI, 15, .inl r4)), (h5, .inl (cI, 12, .inl r5)), (h6, .inl (cJ, 760, .inr (.inl r6)))] sz [.ref h0, .ref h6, .int p1, .int p2, .int p3]) (QW none D [(h0, .inr (10, [.ref h4, .ref h5, .ref h2, .ref h3, .ref h1, .int v0_phases, .ref kthis_now, .ref kthis_trial, .int v0_has, .int v0_thrown])), (h1, .inl (cI, 20, .inl r1)), (h2, .inl (cI, 2, .inl r2)), (h3, .inl (cI, 20, .inl r3)), (h4, .inl (cI, 15, .inl r4)), (h5, .inl (cI, 12, .inl r5)), (h6, .inl (cJ, 760, .inr (.inl t0)))] (va_A [(h0, .inr (10, [.ref h4, .ref h5, .ref h2, .ref h3, .ref h1, .int v0_phases, .ref kthis_now, .ref kthis_trial, .int v0_has, .int v0_thrown])), (h1, .inl (cI, 20, .inl r1)), (h2, .inl (cI, 2, .inl r2)), (h3, .inl (cI, 20, .inl r3)), (h4, .inl (cI, 15, .inl r4)), (h5, .inl (cI, 12, .inl r5)), (h6, .inl (cJ, 760, .inr (.inl r6)))] sz)) 0 0 (va_A [(h0, .inr (10, [.ref h4, .ref h5, .ref h2, .ref h3, .ref h1, .int v0_phases, .ref kthis_now, .ref kthis_trial, .int v0_has, .int v0_thrown])), (h1, .inl (cI, 20, .inl r1)), (h2, .inl (cI, 2, .inl r2)), (h3, .inl (cI, 20, .inl r3)), (h4, .inl (cI, 15, .inl r4)), (h5, .inl (cI, 12, .inl r5)), (h6, .inl (cJ, 760, .inr (.inl r6)))] sz) := by
  refine metW (own := RX10) (by decide) rfl (Nat.le_of_ble_eq_true rfl) ?_
  intro p e s m below meth c S hr hlk hP hK A hAe hD hA hS ls hl
  clear hAe
  have hx := S.1
  have hb := S.2.1
  have hl : lv_has ls 7 [(0, .ref h0), (1, .ref h6), (2, .int p1), (3, .int p2), (4, .int p3)] := hl
  refine lv_iconst (v := 0) hx hb dX10_goesOn_0 li_0 ?_
  refine lv_istore (lv' := [(5, .int 0), (0, .ref h0), (1, .ref h6), (2, .int p1), (3, .int p2), (4, .int p3)]) hx hb dX10_goesOn_1 hl (by decide) rfl (fun ls hl => ?_)
  exact k_X10_goesOn_b3 S hr hlk hK hA _ r6 p1 p2 p3 0 _ _ _ (Nat.lt_succ_self _) h (hP.sub [0, 1, 2, 3, 4, 5, 6] rfl) (hD.sub [0, 1, 2, 3, 4, 5, 6] (by decide) rfl) hS (lv_sub hl [1, 2, 3, 4, 5, 0] rfl)
abbrev rm_X10_clears : Room := { frames := 0, cells := 0, slots := 0, locals := 0 }
theorem dX10_clears_0 : decode cX10_clears 0 = .ok (.iconst 0, 1) := by decide +kernel
theorem dX10_clears_1 : decode cX10_clears 1 = .ok (.istore_n 1, 1) := by decide +kernel
theorem dX10_clears_2 : decode cX10_clears 2 = .ok (.iload_n 1, 1) := by decide +kernel
theorem dX10_clears_3 : decode cX10_clears 3 = .ok (.sipush 760, 3) := by decide +kernel
theorem dX10_clears_6 : decode cX10_clears 6 = .ok (.if_icmp .ge 13, 3) := by decide +kernel
theorem dX10_clears_9 : decode cX10_clears 9 = .ok (.aload_n 0, 1) := by decide +kernel
theorem dX10_clears_10 : decode cX10_clears 10 = .ok (.iload_n 1, 1) := by decide +kernel
theorem dX10_clears_11 : decode cX10_clears 11 = .ok (.lconst 0, 1) := by decide +kernel
theorem dX10_clears_12 : decode cX10_clears 12 = .ok (.lastore, 1) := by decide +kernel
theorem dX10_clears_13 : decode cX10_clears 13 = .ok (.iinc 1 1, 3) := by decide +kernel
theorem dX10_clears_16 : decode cX10_clears 16 = .ok (.goto (-14), 3) := by decide +kernel
theorem dX10_clears_19 : decode cX10_clears 19 = .ok (.aload_n 0, 1) := by decide +kernel
theorem dX10_clears_20 : decode cX10_clears 20 = .ok (.iconst 2, 1) := by decide +kernel
theorem dX10_clears_21 : decode cX10_clears 21 = .ok (.lconst 1, 1) := by decide +kernel
theorem dX10_clears_22 : decode cX10_clears 22 = .ok (.lastore, 1) := by decide +kernel
theorem dX10_clears_23 : decode cX10_clears 23 = .ok (.aload_n 0, 1) := by decide +kernel
theorem dX10_clears_24 : decode cX10_clears 24 = .ok (.bipush 13, 2) := by decide +kernel
theorem dX10_clears_26 : decode cX10_clears 26 = .ok (.ldc2_w 122, 3) := by decide +kernel
theorem dX10_clears_29 : decode cX10_clears 29 = .ok (.lastore, 1) := by decide +kernel
theorem dX10_clears_30 : decode cX10_clears 30 = .ok (.return_, 1) := by decide +kernel
def f_X10_clears_b2  : Nat → (Nat → Int64) → Int32 → (Nat → Int64)
  | 0, _, _ => (fun _ => 0)
  | n + 1, r0, l1 =>
    if 760 ≤ l1 then
      bnd (vp_updL r0 2 1) fun (u2 : Nat → Int64) =>
      bnd (vp_updL u2 13 (-1)) fun (u3 : Nat → Int64) =>
      u3
    else
      bnd (vp_updL r0 l1.toNatClampNeg 0) fun (u4 : Nat → Int64) =>
      f_X10_clears_b2 n u4 (l1 + 1)
def f_X10_clears (r0 : Nat → Int64) : (Nat → Int64) :=
  f_X10_clears_b2 ((((760 : Int32).toInt - (0 : Int32).toInt).toNat) + 1) r0 0
set_option maxHeartbeats 4000000 in
set_option maxRecDepth 100000 in
theorem k_X10_clears_b2 {p : Program} {l : Launch} {e : Env} {s : State} {m : MethodId} {args : Array Value} {below : List Frame} {meth : Method} {c : Code} {D : va_G} {cI cJ cC : ClassId} {h0 : Nat}  {t0 : Nat → Int64}{A : Nat → Prop} (S : CallFix p m c cX10_clears 2 s args TB RX10) (hr : meth.sig.returnType = none) (hlk : meth.locks = false) (hK : va_K D vwCl (ty3 cI cJ cC) s) (hA : ∀ q : Nat, s.heap.size ≤ q → A q) : ∀ (n : Nat) (r0 : Nat → Int64) (l1 : Int32) (H : Heap) (locs : List Loc) (ls : Array Slot), 0 ≤ l1 → ((760 : Int32).toInt - l1.toInt).toNat < n → f_X10_clears_b2 n r0 l1 = t0 → va_P D vwCl [(h0, .inl (cJ, 760, .inr (.inl r0)))] H → va_D A [(h0, .inl (cJ, 760, .inr (.inl r0)))] → va_S A s.heap H locs → lv_has ls 2 [(0, .ref h0), (1, .int l1)] → W p l e rm_X10_clears s m args below meth c H locs 0 0 (MQ below (QW none D [(h0, .inl (cJ, 760, .inr (.inl t0)))] A) args s 0 0 A) (F0 m 2 ls []) := by
  have hx := S.1
  have hb := S.2.1
  intro n
  induction n with
  | zero => intro r0 l1 H locs ls hi0 hmu; exact absurd hmu (Nat.not_lt_zero _)
  | succ n ih =>
    intro r0 l1 H locs ls hi0 hmu h hP hD hS hl
    refine lv_iload_n hx hb dX10_clears_2 rfl (lv_at hl 1 rfl) ?_
    refine lv_sipush (v := 760) hx hb dX10_clears_3 ls_760 ?_
    refine lv_icmp_ge (tgt := 19) hx hb dX10_clears_6 (by decide) (fun c1 => ?_) (fun c1 => ?_)
    · have h := iteP c1 h
      refine lv_aload_n hx hb dX10_clears_19 rfl (lv_at hl 0 rfl) ?_
      refine lv_iconst (v := 2) hx hb dX10_clears_20 li_2 ?_
      refine lv_lconst (v := 1) hx hb dX10_clears_21 rfl ?_
      refine astJ (k := 2) (q0 := 0) S hK hP hD hS rfl vl_2_760 tn_2 dX10_clears_22 (fun H locs hP hD hS => ?_)
      have hP : va_P D vwCl [(h0, .inl (cJ, 760, .inr (.inl (vp_updL r0 2 1))))] H := hP
      have hD : va_D A [(h0, .inl (cJ, 760, .inr (.inl (vp_updL r0 2 1))))] := hD
      obtain ⟨u2, e_u2⟩ : ∃ z, z = vp_updL r0 2 1 := ⟨_, rfl⟩
      rw [← e_u2] at hP hD
      have h := bnd_eq e_u2.symm h
      refine lv_aload_n hx hb dX10_clears_23 rfl (lv_at hl 0 rfl) ?_
      refine lv_bipush (v := 13) hx hb dX10_clears_24 lb_13 ?_
      refine lv_ldc2 (v := (-1)) hx hb S.2.2.2.1 (S.2.2.2.2 _ tb1060) dX10_clears_26 ?_
      refine astJ (k := 13) (q0 := 0) S hK hP hD hS rfl vl_13_760 tn_13 dX10_clears_29 (fun H locs hP hD hS => ?_)
      have hP : va_P D vwCl [(h0, .inl (cJ, 760, .inr (.inl (vp_updL u2 13 (-1)))))] H := hP
      have hD : va_D A [(h0, .inl (cJ, 760, .inr (.inl (vp_updL u2 13 (-1)))))] := hD
      obtain ⟨u3, e_u3⟩ : ∃ z, z = vp_updL u2 13 (-1) := ⟨_, rfl⟩
      rw [← e_u3] at hP hD
      have h := bnd_eq e_u3.symm h
      subst h
      exact wRv S hr hlk (hP.sub [0] rfl) (hD.sub [0] (by decide) rfl) hS dX10_clears_30
    · have h := iteN c1 h
      refine lv_aload_n hx hb dX10_clears_9 rfl (lv_at hl 0 rfl) ?_
      refine lv_iload_n hx hb dX10_clears_10 rfl (lv_at hl 1 rfl) ?_
      refine lv_lconst (v := 0) hx hb dX10_clears_11 rfl ?_
      refine astJ (k := l1.toNatClampNeg) (q0 := 0) S hK hP hD hS rfl (vpb hi0 (nle32 c1) rfl) rfl dX10_clears_12 (fun H locs hP hD hS => ?_)
      have hP : va_P D vwCl [(h0, .inl (cJ, 760, .inr (.inl (vp_updL r0 l1.toNatClampNeg 0))))] H := hP
      have hD : va_D A [(h0, .inl (cJ, 760, .inr (.inl (vp_updL r0 l1.toNatClampNeg 0))))] := hD
      obtain ⟨u4, e_u4⟩ : ∃ z, z = vp_updL r0 l1.toNatClampNeg 0 := ⟨_, rfl⟩
      rw [← e_u4] at hP hD
      have h := bnd_eq e_u4.symm h
      refine lv_iinc (v := l1 + 1) (lv' := [(1, .int (l1 + 1)), (0, .ref h0)]) hx hb dX10_clears_13 hl (k := 1) rfl rfl (by decide) rfl (fun ls hl => ?_)
      refine lv_goto (tgt := 2) hx hb dX10_clears_16 (by decide) ?_
      exact ih u4 (l1 + 1) _ _ _ (by first | exact inc_nn hi0 (by assumption) | exact inc_nn hi0 (nle32 (by assumption))) (by first | exact mu_upA (by assumption) hmu | exact mu_upB (by assumption) hmu) h (hP.sub [0] rfl) (hD.sub [0] (by decide) rfl) hS (lv_sub hl [1, 0] rfl)
set_option maxHeartbeats 4000000 in
set_option maxRecDepth 100000 in
theorem c_X10_clears (l : Launch) (D : va_G) (cI cJ cC : ClassId) (h0 : Nat) (r0 : Nat → Int64) (sz : Nat)  (t0 : Nat → Int64) (h : f_X10_clears r0 = t0) : Met l yX10_clears (Cond.code yX10_clears cX10_clears 2 none :: TB) rm_X10_clears (PreW D cI cJ cC [(h0, .inl (cJ, 760, .inr (.inl r0)))] sz [.ref h0]) (QW none D [(h0, .inl (cJ, 760, .inr (.inl t0)))] (va_A [(h0, .inl (cJ, 760, .inr (.inl r0)))] sz)) 0 0 (va_A [(h0, .inl (cJ, 760, .inr (.inl r0)))] sz) := by
  refine metW (own := RX10) (by decide) rfl (Nat.le_of_ble_eq_true rfl) ?_
  intro p e s m below meth c S hr hlk hP hK A hAe hD hA hS ls hl
  clear hAe
  have hx := S.1
  have hb := S.2.1
  have hl : lv_has ls 2 [(0, .ref h0)] := hl
  refine lv_iconst (v := 0) hx hb dX10_clears_0 li_0 ?_
  refine lv_istore_n (lv' := [(1, .int 0), (0, .ref h0)]) hx hb dX10_clears_1 rfl hl (by decide) rfl (fun ls hl => ?_)
  exact k_X10_clears_b2 S hr hlk hK hA _ r0 0 _ _ _ (by decide) (Nat.lt_succ_self _) h (hP.sub [0] rfl) (hD.sub [0] (by decide) rfl) hS (lv_sub hl [1, 0] rfl)
abbrev rm_X10_cannotStart : Room := { frames := 0, cells := 0, slots := 0, locals := 0 }
theorem dX10_cannotStart_0 : decode cX10_cannotStart 0 = .ok (.aload_n 0, 1) := by decide +kernel
theorem dX10_cannotStart_1 : decode cX10_cannotStart 1 = .ok (.getfield 16, 3) := by decide +kernel
theorem dX10_cannotStart_4 : decode cX10_cannotStart 4 = .ok (.iconst 0, 1) := by decide +kernel
theorem dX10_cannotStart_5 : decode cX10_cannotStart 5 = .ok (.iaload, 1) := by decide +kernel
theorem dX10_cannotStart_6 : decode cX10_cannotStart 6 = .ok (.ifCond .eq 10, 3) := by decide +kernel
theorem dX10_cannotStart_9 : decode cX10_cannotStart 9 = .ok (.aload_n 0, 1) := by decide +kernel
theorem dX10_cannotStart_10 : decode cX10_cannotStart 10 = .ok (.getfield 65, 3) := by decide +kernel
theorem dX10_cannotStart_13 : decode cX10_cannotStart 13 = .ok (.ifCond .ne 7, 3) := by decide +kernel
theorem dX10_cannotStart_16 : decode cX10_cannotStart 16 = .ok (.iconst 1, 1) := by decide +kernel
theorem dX10_cannotStart_17 : decode cX10_cannotStart 17 = .ok (.goto 4, 3) := by decide +kernel
theorem dX10_cannotStart_20 : decode cX10_cannotStart 20 = .ok (.iconst 0, 1) := by decide +kernel
theorem dX10_cannotStart_21 : decode cX10_cannotStart 21 = .ok (.ireturn, 1) := by decide +kernel
def f_X10_cannotStart (v0_phases : Int32) (r1 : Nat → Int32) : Int32 :=
  if (r1 0) = 0 then
    1
  else
    if v0_phases = 0 then
      1
    else
      0
set_option maxHeartbeats 4000000 in
set_option maxRecDepth 100000 in
theorem c_X10_cannotStart (l : Launch) (D : va_G) (cI cJ cC : ClassId) (h0 h1 kthis_p kthis_rates kthis_lengths kthis_flows kthis_now kthis_trial : Nat) (v0_phases v0_has v0_thrown : Int32) (r1 : Nat → Int32)  (t0 : Int32) (h : f_X10_cannotStart v0_phases r1 = t0) : Met l yX10_cannotStart (Cond.code yX10_cannotStart cX10_cannotStart 1 (some .boolean) :: TB) rm_X10_cannotStart (PreR D cI cJ cC [(h0, .inr (10, [.ref kthis_p, .ref kthis_rates, .ref h1, .ref kthis_lengths, .ref kthis_flows, .int v0_phases, .ref kthis_now, .ref kthis_trial, .int v0_has, .int v0_thrown])), (h1, .inl (cI, 2, .inl r1))] [.ref h0]) (QR (some (.int t0))) 0 0 free0 := by
  refine metR (own := RX10) (by decide) rfl (Nat.le_of_ble_eq_true rfl) ?_
  intro p e s m below meth c S hr hlk hP hK ls hl
  have hx := S.1
  have hb := S.2.1
  have hl : lv_has ls 1 [(0, .ref h0)] := hl
  refine lv_aload_n hx hb dX10_cannotStart_0 rfl (lv_at hl 0 rfl) ?_
  refine gf_X10_16 (v := .ref h1) S hK hP 0 rfl rfl dX10_cannotStart_1 ?_
  refine lv_iconst (v := 0) hx hb dX10_cannotStart_4 li_0 ?_
  refine aldI (k := 0) (q0 := 1) S hK hP rfl vl_0_2 tn_0 dX10_cannotStart_5 ?_
  refine lv_if_eq (tgt := 16) hx hb dX10_cannotStart_6 (by decide) (fun c1 => ?_) (fun c1 => ?_)
  · have h := iteP c1 h
    refine lv_iconst (v := 1) hx hb dX10_cannotStart_16 li_1 ?_
    refine lv_goto (tgt := 21) hx hb dX10_cannotStart_17 (by decide) ?_
    subst h
    exact rRz S hr hlk (by decide) dX10_cannotStart_21
  · have h := iteN c1 h
    refine lv_aload_n hx hb dX10_cannotStart_9 rfl (lv_at hl 0 rfl) ?_
    refine gf_X10_65 (v := .int v0_phases) S hK hP 0 rfl rfl dX10_cannotStart_10 ?_
    refine lv_if_ne (tgt := 20) hx hb dX10_cannotStart_13 (by decide) (fun c2 => ?_) (fun c2 => ?_)
    · have h := iteN c2 h
      refine lv_iconst (v := 0) hx hb dX10_cannotStart_20 li_0 ?_
      subst h
      exact rRz S hr hlk (by decide) dX10_cannotStart_21
    · have h := iteP c2 h
      refine lv_iconst (v := 1) hx hb dX10_cannotStart_16 li_1 ?_
      refine lv_goto (tgt := 21) hx hb dX10_cannotStart_17 (by decide) ?_
      subst h
      exact rRz S hr hlk (by decide) dX10_cannotStart_21
