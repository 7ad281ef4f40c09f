abbrev rm_X10_receives : Room := { frames := 1, cells := 0, slots := 0, locals := 27 }
theorem dX10_receives_0 : decode cX10_receives 0 = .ok (.aload_n 1, 1) := by decide +kernel
theorem dX10_receives_1 : decode cX10_receives 1 = .ok (.bipush 10, 2) := by decide +kernel
theorem dX10_receives_3 : decode cX10_receives 3 = .ok (.dup2, 1) := by decide +kernel
theorem dX10_receives_4 : decode cX10_receives 4 = .ok (.laload, 1) := by decide +kernel
theorem dX10_receives_5 : decode cX10_receives 5 = .ok (.lconst 1, 1) := by decide +kernel
theorem dX10_receives_6 : decode cX10_receives 6 = .ok (.ladd, 1) := by decide +kernel
theorem dX10_receives_7 : decode cX10_receives 7 = .ok (.lastore, 1) := by decide +kernel
theorem dX10_receives_8 : decode cX10_receives 8 = .ok (.aload_n 1, 1) := by decide +kernel
theorem dX10_receives_9 : decode cX10_receives 9 = .ok (.bipush 9, 2) := by decide +kernel
theorem dX10_receives_11 : decode cX10_receives 11 = .ok (.laload, 1) := by decide +kernel
theorem dX10_receives_12 : decode cX10_receives 12 = .ok (.lconst 0, 1) := by decide +kernel
theorem dX10_receives_13 : decode cX10_receives 13 = .ok (.lcmp, 1) := by decide +kernel
theorem dX10_receives_14 : decode cX10_receives 14 = .ok (.ifCond .le 14, 3) := by decide +kernel
theorem dX10_receives_17 : decode cX10_receives 17 = .ok (.aload_n 1, 1) := by decide +kernel
theorem dX10_receives_18 : decode cX10_receives 18 = .ok (.bipush 9, 2) := by decide +kernel
theorem dX10_receives_20 : decode cX10_receives 20 = .ok (.dup2, 1) := by decide +kernel
theorem dX10_receives_21 : decode cX10_receives 21 = .ok (.laload, 1) := by decide +kernel
theorem dX10_receives_22 : decode cX10_receives 22 = .ok (.lconst 1, 1) := by decide +kernel
theorem dX10_receives_23 : decode cX10_receives 23 = .ok (.lsub, 1) := by decide +kernel
theorem dX10_receives_24 : decode cX10_receives 24 = .ok (.lastore, 1) := by decide +kernel
theorem dX10_receives_25 : decode cX10_receives 25 = .ok (.goto 43, 3) := by decide +kernel
theorem dX10_receives_28 : decode cX10_receives 28 = .ok (.aload_n 1, 1) := by decide +kernel
theorem dX10_receives_29 : decode cX10_receives 29 = .ok (.bipush 12, 2) := by decide +kernel
theorem dX10_receives_31 : decode cX10_receives 31 = .ok (.laload, 1) := by decide +kernel
theorem dX10_receives_32 : decode cX10_receives 32 = .ok (.aload_n 1, 1) := by decide +kernel
theorem dX10_receives_33 : decode cX10_receives 33 = .ok (.bipush 11, 2) := by decide +kernel
theorem dX10_receives_35 : decode cX10_receives 35 = .ok (.laload, 1) := by decide +kernel
theorem dX10_receives_36 : decode cX10_receives 36 = .ok (.lsub, 1) := by decide +kernel
theorem dX10_receives_37 : decode cX10_receives 37 = .ok (.lstore_n 2, 1) := by decide +kernel
theorem dX10_receives_38 : decode cX10_receives 38 = .ok (.aload_n 0, 1) := by decide +kernel
theorem dX10_receives_39 : decode cX10_receives 39 = .ok (.aload_n 1, 1) := by decide +kernel
theorem dX10_receives_40 : decode cX10_receives 40 = .ok (.iconst 0, 1) := by decide +kernel
theorem dX10_receives_41 : decode cX10_receives 41 = .ok (.laload, 1) := by decide +kernel
theorem dX10_receives_42 : decode cX10_receives 42 = .ok (.invokevirtual 68, 3) := by decide +kernel
theorem dX10_receives_45 : decode cX10_receives 45 = .ok (.i2l, 1) := by decide +kernel
theorem dX10_receives_46 : decode cX10_receives 46 = .ok (.lstore 4, 2) := by decide +kernel
theorem dX10_receives_48 : decode cX10_receives 48 = .ok (.aload_n 1, 1) := by decide +kernel
theorem dX10_receives_49 : decode cX10_receives 49 = .ok (.bipush 11, 2) := by decide +kernel
theorem dX10_receives_51 : decode cX10_receives 51 = .ok (.dup2, 1) := by decide +kernel
theorem dX10_receives_52 : decode cX10_receives 52 = .ok (.laload, 1) := by decide +kernel
theorem dX10_receives_53 : decode cX10_receives 53 = .ok (.lload 4, 2) := by decide +kernel
theorem dX10_receives_55 : decode cX10_receives 55 = .ok (.lload_n 2, 1) := by decide +kernel
theorem dX10_receives_56 : decode cX10_receives 56 = .ok (.lcmp, 1) := by decide +kernel
theorem dX10_receives_57 : decode cX10_receives 57 = .ok (.ifCond .ge 8, 3) := by decide +kernel
theorem dX10_receives_60 : decode cX10_receives 60 = .ok (.lload 4, 2) := by decide +kernel
theorem dX10_receives_62 : decode cX10_receives 62 = .ok (.goto 4, 3) := by decide +kernel
theorem dX10_receives_65 : decode cX10_receives 65 = .ok (.lload_n 2, 1) := by decide +kernel
theorem dX10_receives_66 : decode cX10_receives 66 = .ok (.ladd, 1) := by decide +kernel
theorem dX10_receives_67 : decode cX10_receives 67 = .ok (.lastore, 1) := by decide +kernel
theorem dX10_receives_68 : decode cX10_receives 68 = .ok (.aload_n 1, 1) := by decide +kernel
theorem dX10_receives_69 : decode cX10_receives 69 = .ok (.bipush 11, 2) := by decide +kernel
theorem dX10_receives_71 : decode cX10_receives 71 = .ok (.laload, 1) := by decide +kernel
theorem dX10_receives_72 : decode cX10_receives 72 = .ok (.aload_n 1, 1) := by decide +kernel
theorem dX10_receives_73 : decode cX10_receives 73 = .ok (.bipush 12, 2) := by decide +kernel
theorem dX10_receives_75 : decode cX10_receives 75 = .ok (.laload, 1) := by decide +kernel
theorem dX10_receives_76 : decode cX10_receives 76 = .ok (.lcmp, 1) := by decide +kernel
theorem dX10_receives_77 : decode cX10_receives 77 = .ok (.ifCond .ge 4, 3) := by decide +kernel
theorem dX10_receives_80 : decode cX10_receives 80 = .ok (.return_, 1) := by decide +kernel
theorem dX10_receives_81 : decode cX10_receives 81 = .ok (.aload_n 1, 1) := by decide +kernel
theorem dX10_receives_82 : decode cX10_receives 82 = .ok (.bipush 6, 2) := by decide +kernel
theorem dX10_receives_84 : decode cX10_receives 84 = .ok (.laload, 1) := by decide +kernel
theorem dX10_receives_85 : decode cX10_receives 85 = .ok (.l2i, 1) := by decide +kernel
theorem dX10_receives_86 : decode cX10_receives 86 = .ok (.istore_n 2, 1) := by decide +kernel
theorem dX10_receives_87 : decode cX10_receives 87 = .ok (.aload_n 1, 1) := by decide +kernel
theorem dX10_receives_88 : decode cX10_receives 88 = .ok (.bipush 50, 2) := by decide +kernel
theorem dX10_receives_90 : decode cX10_receives 90 = .ok (.sipush 200, 3) := by decide +kernel
theorem dX10_receives_93 : decode cX10_receives 93 = .ok (.iload_n 2, 1) := by decide +kernel
theorem dX10_receives_94 : decode cX10_receives 94 = .ok (.imul, 1) := by decide +kernel
theorem dX10_receives_95 : decode cX10_receives 95 = .ok (.iadd, 1) := by decide +kernel
theorem dX10_receives_96 : decode cX10_receives 96 = .ok (.aload_n 1, 1) := by decide +kernel
theorem dX10_receives_97 : decode cX10_receives 97 = .ok (.bipush 7, 2) := by decide +kernel
theorem dX10_receives_99 : decode cX10_receives 99 = .ok (.laload, 1) := by decide +kernel
theorem dX10_receives_100 : decode cX10_receives 100 = .ok (.l2i, 1) := by decide +kernel
theorem dX10_receives_101 : decode cX10_receives 101 = .ok (.iadd, 1) := by decide +kernel
theorem dX10_receives_102 : decode cX10_receives 102 = .ok (.aload_n 1, 1) := by decide +kernel
theorem dX10_receives_103 : decode cX10_receives 103 = .ok (.bipush 8, 2) := by decide +kernel
theorem dX10_receives_105 : decode cX10_receives 105 = .ok (.laload, 1) := by decide +kernel
theorem dX10_receives_106 : decode cX10_receives 106 = .ok (.lastore, 1) := by decide +kernel
theorem dX10_receives_107 : decode cX10_receives 107 = .ok (.aload_n 1, 1) := by decide +kernel
theorem dX10_receives_108 : decode cX10_receives 108 = .ok (.iconst 3, 1) := by decide +kernel
theorem dX10_receives_109 : decode cX10_receives 109 = .ok (.iload_n 2, 1) := by decide +kernel
theorem dX10_receives_110 : decode cX10_receives 110 = .ok (.iadd, 1) := by decide +kernel
theorem dX10_receives_111 : decode cX10_receives 111 = .ok (.dup2, 1) := by decide +kernel
theorem dX10_receives_112 : decode cX10_receives 112 = .ok (.laload, 1) := by decide +kernel
theorem dX10_receives_113 : decode cX10_receives 113 = .ok (.lconst 1, 1) := by decide +kernel
theorem dX10_receives_114 : decode cX10_receives 114 = .ok (.ladd, 1) := by decide +kernel
theorem dX10_receives_115 : decode cX10_receives 115 = .ok (.lastore, 1) := by decide +kernel
theorem dX10_receives_116 : decode cX10_receives 116 = .ok (.aload_n 1, 1) := by decide +kernel
theorem dX10_receives_117 : decode cX10_receives 117 = .ok (.iconst 5, 1) := by decide +kernel
theorem dX10_receives_118 : decode cX10_receives 118 = .ok (.lconst 0, 1) := by decide +kernel
theorem dX10_receives_119 : decode cX10_receives 119 = .ok (.lastore, 1) := by decide +kernel
theorem dX10_receives_120 : decode cX10_receives 120 = .ok (.aload_n 1, 1) := by decide +kernel
theorem dX10_receives_121 : decode cX10_receives 121 = .ok (.bipush 20, 2) := by decide +kernel
theorem dX10_receives_123 : decode cX10_receives 123 = .ok (.dup2, 1) := by decide +kernel
theorem dX10_receives_124 : decode cX10_receives 124 = .ok (.laload, 1) := by decide +kernel
theorem dX10_receives_125 : decode cX10_receives 125 = .ok (.lconst 1, 1) := by decide +kernel
theorem dX10_receives_126 : decode cX10_receives 126 = .ok (.ladd, 1) := by decide +kernel
theorem dX10_receives_127 : decode cX10_receives 127 = .ok (.lastore, 1) := by decide +kernel
theorem dX10_receives_128 : decode cX10_receives 128 = .ok (.bipush 9, 2) := by decide +kernel
theorem dX10_receives_130 : decode cX10_receives 130 = .ok (.istore_n 3, 1) := by decide +kernel
theorem dX10_receives_131 : decode cX10_receives 131 = .ok (.iload_n 3, 1) := by decide +kernel
theorem dX10_receives_132 : decode cX10_receives 132 = .ok (.ifCond .le 37, 3) := by decide +kernel
theorem dX10_receives_135 : decode cX10_receives 135 = .ok (.aload_n 1, 1) := by decide +kernel
theorem dX10_receives_136 : decode cX10_receives 136 = .ok (.bipush 25, 2) := by decide +kernel
theorem dX10_receives_138 : decode cX10_receives 138 = .ok (.iload_n 3, 1) := by decide +kernel
theorem dX10_receives_139 : decode cX10_receives 139 = .ok (.iadd, 1) := by decide +kernel
theorem dX10_receives_140 : decode cX10_receives 140 = .ok (.aload_n 1, 1) := by decide +kernel
theorem dX10_receives_141 : decode cX10_receives 141 = .ok (.bipush 25, 2) := by decide +kernel
theorem dX10_receives_143 : decode cX10_receives 143 = .ok (.iload_n 3, 1) := by decide +kernel
theorem dX10_receives_144 : decode cX10_receives 144 = .ok (.iadd, 1) := by decide +kernel
theorem dX10_receives_145 : decode cX10_receives 145 = .ok (.iconst 1, 1) := by decide +kernel
theorem dX10_receives_146 : decode cX10_receives 146 = .ok (.isub, 1) := by decide +kernel
theorem dX10_receives_147 : decode cX10_receives 147 = .ok (.laload, 1) := by decide +kernel
theorem dX10_receives_148 : decode cX10_receives 148 = .ok (.lastore, 1) := by decide +kernel
theorem dX10_receives_149 : decode cX10_receives 149 = .ok (.aload_n 1, 1) := by decide +kernel
theorem dX10_receives_150 : decode cX10_receives 150 = .ok (.bipush 35, 2) := by decide +kernel
theorem dX10_receives_152 : decode cX10_receives 152 = .ok (.iload_n 3, 1) := by decide +kernel
theorem dX10_receives_153 : decode cX10_receives 153 = .ok (.iadd, 1) := by decide +kernel
theorem dX10_receives_154 : decode cX10_receives 154 = .ok (.aload_n 1, 1) := by decide +kernel
theorem dX10_receives_155 : decode cX10_receives 155 = .ok (.bipush 35, 2) := by decide +kernel
theorem dX10_receives_157 : decode cX10_receives 157 = .ok (.iload_n 3, 1) := by decide +kernel
theorem dX10_receives_158 : decode cX10_receives 158 = .ok (.iadd, 1) := by decide +kernel
theorem dX10_receives_159 : decode cX10_receives 159 = .ok (.iconst 1, 1) := by decide +kernel
theorem dX10_receives_160 : decode cX10_receives 160 = .ok (.isub, 1) := by decide +kernel
theorem dX10_receives_161 : decode cX10_receives 161 = .ok (.laload, 1) := by decide +kernel
theorem dX10_receives_162 : decode cX10_receives 162 = .ok (.lastore, 1) := by decide +kernel
theorem dX10_receives_163 : decode cX10_receives 163 = .ok (.iinc 3 (-1), 3) := by decide +kernel
theorem dX10_receives_166 : decode cX10_receives 166 = .ok (.goto (-35), 3) := by decide +kernel
theorem dX10_receives_169 : decode cX10_receives 169 = .ok (.aload_n 1, 1) := by decide +kernel
theorem dX10_receives_170 : decode cX10_receives 170 = .ok (.bipush 25, 2) := by decide +kernel
theorem dX10_receives_172 : decode cX10_receives 172 = .ok (.aload_n 1, 1) := by decide +kernel
theorem dX10_receives_173 : decode cX10_receives 173 = .ok (.bipush 12, 2) := by decide +kernel
theorem dX10_receives_175 : decode cX10_receives 175 = .ok (.laload, 1) := by decide +kernel
theorem dX10_receives_176 : decode cX10_receives 176 = .ok (.lastore, 1) := by decide +kernel
theorem dX10_receives_177 : decode cX10_receives 177 = .ok (.aload_n 1, 1) := by decide +kernel
theorem dX10_receives_178 : decode cX10_receives 178 = .ok (.bipush 35, 2) := by decide +kernel
theorem dX10_receives_180 : decode cX10_receives 180 = .ok (.aload_n 1, 1) := by decide +kernel
theorem dX10_receives_181 : decode cX10_receives 181 = .ok (.bipush 10, 2) := by decide +kernel
theorem dX10_receives_183 : decode cX10_receives 183 = .ok (.laload, 1) := by decide +kernel
theorem dX10_receives_184 : decode cX10_receives 184 = .ok (.lastore, 1) := by decide +kernel
theorem dX10_receives_185 : decode cX10_receives 185 = .ok (.aload_n 1, 1) := by decide +kernel
theorem dX10_receives_186 : decode cX10_receives 186 = .ok (.bipush 24, 2) := by decide +kernel
theorem dX10_receives_188 : decode cX10_receives 188 = .ok (.dup2, 1) := by decide +kernel
theorem dX10_receives_189 : decode cX10_receives 189 = .ok (.laload, 1) := by decide +kernel
theorem dX10_receives_190 : decode cX10_receives 190 = .ok (.aload_n 1, 1) := by decide +kernel
theorem dX10_receives_191 : decode cX10_receives 191 = .ok (.bipush 24, 2) := by decide +kernel
theorem dX10_receives_193 : decode cX10_receives 193 = .ok (.laload, 1) := by decide +kernel
theorem dX10_receives_194 : decode cX10_receives 194 = .ok (.ldc2_w 116, 3) := by decide +kernel
theorem dX10_receives_197 : decode cX10_receives 197 = .ok (.lcmp, 1) := by decide +kernel
theorem dX10_receives_198 : decode cX10_receives 198 = .ok (.ifCond .ge 7, 3) := by decide +kernel
theorem dX10_receives_201 : decode cX10_receives 201 = .ok (.lconst 1, 1) := by decide +kernel
theorem dX10_receives_202 : decode cX10_receives 202 = .ok (.goto 4, 3) := by decide +kernel
theorem dX10_receives_205 : decode cX10_receives 205 = .ok (.lconst 0, 1) := by decide +kernel
theorem dX10_receives_206 : decode cX10_receives 206 = .ok (.ladd, 1) := by decide +kernel
theorem dX10_receives_207 : decode cX10_receives 207 = .ok (.lastore, 1) := by decide +kernel
theorem dX10_receives_208 : decode cX10_receives 208 = .ok (.return_, 1) := by decide +kernel
def f_X10_receives_b131  : Nat → (Nat → Int64) → Int32 → Option (Nat → Int64)
  | 0, _, _ => none
  | n + 1, r3, l3 =>
    if l3 ≤ 0 then
      bnd (vp_updL r3 25 (r3 12)) fun (u2 : Nat → Int64) =>
      bnd (vp_updL u2 35 (u2 10)) fun (u3 : Nat → Int64) =>
      if 10 ≤ (u3 24) then
        bnd (vp_updL u3 24 ((u3 24) + 0)) fun (u5 : Nat → Int64) =>
        some u5
      else
        bnd (vp_updL u3 24 ((u3 24) + 1)) fun (u6 : Nat → Int64) =>
        some u6
    else
      grd (vin ((25 + l3) - 1) 760) <|
      bnd (r3 ((25 + l3) - 1).toNatClampNeg) fun (z8 : Int64) =>
      grd (vin (25 + l3) 760) <|
      bnd (vp_updL r3 (25 + l3).toNatClampNeg z8) fun (u10 : Nat → Int64) =>
      grd (vin ((35 + l3) - 1) 760) <|
      bnd (u10 ((35 + l3) - 1).toNatClampNeg) fun (z12 : Int64) =>
      grd (vin (35 + l3) 760) <|
      bnd (vp_updL u10 (35 + l3).toNatClampNeg z12) fun (u14 : Nat → Int64) =>
      f_X10_receives_b131 n u14 (l3 + (-1))
def f_X10_receives_b68  (r3 : Nat → Int64) : Option (Nat → Int64) :=
  if (r3 12) ≤ (r3 11) then
    grd (vin ((50 + (200 * ((r3 6).toInt32))) + ((r3 7).toInt32)) 760) <|
    bnd (vp_updL r3 ((50 + (200 * ((r3 6).toInt32))) + ((r3 7).toInt32)).toNatClampNeg (r3 8)) fun (u3 : Nat → Int64) =>
    grd (vin (3 + ((r3 6).toInt32)) 760) <|
    bnd ((u3 (3 + ((r3 6).toInt32)).toNatClampNeg) + 1) fun (z5 : Int64) =>
    grd (vin (3 + ((r3 6).toInt32)) 760) <|
    bnd (vp_updL u3 (3 + ((r3 6).toInt32)).toNatClampNeg z5) fun (u7 : Nat → Int64) =>
    bnd (vp_updL u7 5 0) fun (u8 : Nat → Int64) =>
    bnd (vp_updL u8 20 ((u8 20) + 1)) fun (u9 : Nat → Int64) =>
    f_X10_receives_b131 ((((9 : Int32).toInt + 1).toNat) + 1) u9 9
  else
    some r3
def f_X10_receives_b66  (r3 : Nat → Int64) (s1 : Int32) (s2 s3 : Int64) : Option (Nat → Int64) :=
  grd (vin s1 760) <|
  bnd (vp_updL r3 s1.toNatClampNeg (s2 + s3)) fun (u2 : Nat → Int64) =>
  f_X10_receives_b68 u2
def f_X10_receives (v0_phases : Int32) (r1 r2 : Nat → Int32) (r3 : Nat → Int64) : Option (Nat → Int64) :=
  bnd (vp_updL r3 10 ((r3 10) + 1)) fun (u1 : Nat → Int64) =>
  if (u1 9) ≤ 0 then
    obnd (f_X10_flowAt v0_phases r1 r2 (u1 0)) fun (y3 : Int32) =>
    if ((u1 12) - (u1 11)) ≤ y3.toInt64 then
      f_X10_receives_b66 u1 11 (u1 11) ((u1 12) - (u1 11))
    else
      f_X10_receives_b66 u1 11 (u1 11) y3.toInt64
  else
    bnd (vp_updL u1 9 ((u1 9) - 1)) fun (u5 : Nat → Int64) =>
    f_X10_receives_b68 u5
set_option maxHeartbeats 4000000 in
set_option maxRecDepth 100000 in
theorem k_X10_receives_b131 {p : Program} {l : Launch} {e : Env} {s : State} {m : MethodId} {args : Array Value} {below : List Frame} {meth : Method} {c : Code} {D : va_G} {cI cJ cC : ClassId} {h0 h1 h2 h3 kthis_p kthis_rates kthis_ladder kthis_now kthis_trial : Nat} {v0_phases v0_has v0_thrown : Int32} {r1 r2 : Nat → Int32} {t0 : Nat → Int64}{A : Nat → Prop} (S : CallFix p m c cX10_receives 6 s args TB RX10) (hr : meth.sig.returnType = none) (hlk : meth.locks = false) (hK : va_K D vwCl (ty3 cI cJ cC) s) (hA : ∀ q : Nat, s.heap.size ≤ q → A q) : ∀ (n : Nat) (r3 : Nat → Int64) (l3 : Int32) (H : Heap) (locs : List Loc) (ls : Array Slot), (l3.toInt + 1).toNat < n → f_X10_receives_b131 n r3 l3 = some t0 → va_P D vwCl [(h0, .inr (10, [.ref kthis_p, .ref kthis_rates, .ref kthis_ladder, .ref h2, .ref h1, .int v0_phases, .ref kthis_now, .ref kthis_trial, .int v0_has, .int v0_thrown])), (h1, .inl (cI, 20, .inl r1)), (h2, .inl (cI, 20, .inl r2)), (h3, .inl (cJ, 760, .inr (.inl r3)))] H → va_D A [(h0, .inr (10, [.ref kthis_p, .ref kthis_rates, .ref kthis_ladder, .ref h2, .ref h1, .int v0_phases, .ref kthis_now, .ref kthis_trial, .int v0_has, .int v0_thrown])), (h1, .inl (cI, 20, .inl r1)), (h2, .inl (cI, 20, .inl r2)), (h3, .inl (cJ, 760, .inr (.inl r3)))] → va_S A s.heap H locs → lv_has ls 6 [(1, .ref h3), (3, .int l3)] → W p l e rm_X10_receives s m args below meth c H locs 0 0 (MQ below (QW none D [(h0, .inr (10, [.ref kthis_p, .ref kthis_rates, .ref kthis_ladder, .ref h2, .ref h1, .int v0_phases, .ref kthis_now, .ref kthis_trial, .int v0_has, .int v0_thrown])), (h1, .inl (cI, 20, .inl r1)), (h2, .inl (cI, 20, .inl r2)), (h3, .inl (cJ, 760, .inr (.inl t0)))] A) args s 0 0 A) (F0 m 131 ls []) := by
  have hx := S.1
  have hb := S.2.1
  intro n
  induction n with
  | zero => intro r3 l3 H locs ls  hmu; exact absurd hmu (Nat.not_lt_zero _)
  | succ n ih =>
    intro r3 l3 H locs ls  hmu h hP hD hS hl
    refine lv_iload_n hx hb dX10_receives_131 rfl (lv_at hl 1 rfl) ?_
    refine lv_if_le (tgt := 169) hx hb dX10_receives_132 (by decide) (fun c1 => ?_) (fun c1 => ?_)
    · have h := iteP c1 h
      refine lv_aload_n hx hb dX10_receives_169 rfl (lv_at hl 0 rfl) ?_
      refine lv_bipush (v := 25) hx hb dX10_receives_170 lb_25 ?_
      refine lv_aload_n hx hb dX10_receives_172 rfl (lv_at hl 0 rfl) ?_
      refine lv_bipush (v := 12) hx hb dX10_receives_173 lb_12 ?_
      refine aldJ (k := 12) (q0 := 3) S hK hP rfl vl_12_760 tn_12 dX10_receives_175 ?_
      refine astJ (k := 25) (q0 := 3) S hK hP hD hS rfl vl_25_760 tn_25 dX10_receives_176 (fun H locs hP hD hS => ?_)
      have hP : va_P D vwCl [(h0, .inr (10, [.ref kthis_p, .ref kthis_rates, .ref kthis_ladder, .ref h2, .ref h1, .int v0_phases, .ref kthis_now, .ref kthis_trial, .int v0_has, .int v0_thrown])), (h1, .inl (cI, 20, .inl r1)), (h2, .inl (cI, 20, .inl r2)), (h3, .inl (cJ, 760, .inr (.inl (vp_updL r3 25 (r3 12)))))] H := hP
      have hD : va_D A [(h0, .inr (10, [.ref kthis_p, .ref kthis_rates, .ref kthis_ladder, .ref h2, .ref h1, .int v0_phases, .ref kthis_now, .ref kthis_trial, .int v0_has, .int v0_thrown])), (h1, .inl (cI, 20, .inl r1)), (h2, .inl (cI, 20, .inl r2)), (h3, .inl (cJ, 760, .inr (.inl (vp_updL r3 25 (r3 12)))))] := hD
      obtain ⟨u2, e_u2⟩ : ∃ z, z = vp_updL r3 25 (r3 12) := ⟨_, rfl⟩
      rw [← e_u2] at hP hD
      have h := bnd_eq e_u2.symm h
      refine lv_aload_n hx hb dX10_receives_177 rfl (lv_at hl 0 rfl) ?_
      refine lv_bipush (v := 35) hx hb dX10_receives_178 lb_35 ?_
      refine lv_aload_n hx hb dX10_receives_180 rfl (lv_at hl 0 rfl) ?_
      refine lv_bipush (v := 10) hx hb dX10_receives_181 lb_10 ?_
      refine aldJ (k := 10) (q0 := 3) S hK hP rfl vl_10_760 tn_10 dX10_receives_183 ?_
      refine astJ (k := 35) (q0 := 3) S hK hP hD hS rfl vl_35_760 tn_35 dX10_receives_184 (fun H locs hP hD hS => ?_)
      have hP : va_P D vwCl [(h0, .inr (10, [.ref kthis_p, .ref kthis_rates, .ref kthis_ladder, .ref h2, .ref h1, .int v0_phases, .ref kthis_now, .ref kthis_trial, .int v0_has, .int v0_thrown])), (h1, .inl (cI, 20, .inl r1)), (h2, .inl (cI, 20, .inl r2)), (h3, .inl (cJ, 760, .inr (.inl (vp_updL u2 35 (u2 10)))))] H := hP
      have hD : va_D A [(h0, .inr (10, [.ref kthis_p, .ref kthis_rates, .ref kthis_ladder, .ref h2, .ref h1, .int v0_phases, .ref kthis_now, .ref kthis_trial, .int v0_has, .int v0_thrown])), (h1, .inl (cI, 20, .inl r1)), (h2, .inl (cI, 20, .inl r2)), (h3, .inl (cJ, 760, .inr (.inl (vp_updL u2 35 (u2 10)))))] := hD
      obtain ⟨u3, e_u3⟩ : ∃ z, z = vp_updL u2 35 (u2 10) := ⟨_, rfl⟩
      rw [← e_u3] at hP hD
      have h := bnd_eq e_u3.symm h
      refine lv_aload_n hx hb dX10_receives_185 rfl (lv_at hl 0 rfl) ?_
      refine lv_bipush (v := 24) hx hb dX10_receives_186 lb_24 ?_
      refine lv_dup2_11 hx hb dX10_receives_188 rfl rfl ?_
      refine aldJ (k := 24) (q0 := 3) S hK hP rfl vl_24_760 tn_24 dX10_receives_189 ?_
      refine lv_aload_n hx hb dX10_receives_190 rfl (lv_at hl 0 rfl) ?_
      refine lv_bipush (v := 24) hx hb dX10_receives_191 lb_24 ?_
      refine aldJ (k := 24) (q0 := 3) S hK hP rfl vl_24_760 tn_24 dX10_receives_193 ?_
      refine lv_ldc2 (v := 10) hx hb S.2.2.2.1 (S.2.2.2.2 _ tb1112) dX10_receives_194 ?_
      refine lc_ge (tgt := 205) hx hb dX10_receives_197 dX10_receives_198 (by decide) (fun c4 => ?_) (fun c4 => ?_)
      · have h := iteP c4 h
        refine lv_lconst (v := 0) hx hb dX10_receives_205 rfl ?_
        refine lv_ladd hx hb dX10_receives_206 ?_
        refine astJ (k := 24) (q0 := 3) S hK hP hD hS rfl vl_24_760 tn_24 dX10_receives_207 (fun H locs hP hD hS => ?_)
        have hP : va_P D vwCl [(h0, .inr (10, [.ref kthis_p, .ref kthis_rates, .ref kthis_ladder, .ref h2, .ref h1, .int v0_phases, .ref kthis_now, .ref kthis_trial, .int v0_has, .int v0_thrown])), (h1, .inl (cI, 20, .inl r1)), (h2, .inl (cI, 20, .inl r2)), (h3, .inl (cJ, 760, .inr (.inl (vp_updL u3 24 ((u3 24) + 0)))))] H := hP
        have hD : va_D A [(h0, .inr (10, [.ref kthis_p, .ref kthis_rates, .ref kthis_ladder, .ref h2, .ref h1, .int v0_phases, .ref kthis_now, .ref kthis_trial, .int v0_has, .int v0_thrown])), (h1, .inl (cI, 20, .inl r1)), (h2, .inl (cI, 20, .inl r2)), (h3, .inl (cJ, 760, .inr (.inl (vp_updL u3 24 ((u3 24) + 0)))))] := hD
        obtain ⟨u5, e_u5⟩ : ∃ z, z = vp_updL u3 24 ((u3 24) + 0) := ⟨_, rfl⟩
        rw [← e_u5] at hP hD
        have h := bnd_eq e_u5.symm h
        have h := Option.some.inj h
        subst h
        exact wRv S hr hlk (hP.sub [0, 1, 2, 3] rfl) (hD.sub [0, 1, 2, 3] (by decide) rfl) hS dX10_receives_208
      · have h := iteN c4 h
        refine lv_lconst (v := 1) hx hb dX10_receives_201 rfl ?_
        refine lv_goto (tgt := 206) hx hb dX10_receives_202 (by decide) ?_
        refine lv_ladd hx hb dX10_receives_206 ?_
        refine astJ (k := 24) (q0 := 3) S hK hP hD hS rfl vl_24_760 tn_24 dX10_receives_207 (fun H locs hP hD hS => ?_)
        have hP : va_P D vwCl [(h0, .inr (10, [.ref kthis_p, .ref kthis_rates, .ref kthis_ladder, .ref h2, .ref h1, .int v0_phases, .ref kthis_now, .ref kthis_trial, .int v0_has, .int v0_thrown])), (h1, .inl (cI, 20, .inl r1)), (h2, .inl (cI, 20, .inl r2)), (h3, .inl (cJ, 760, .inr (.inl (vp_updL u3 24 ((u3 24) + 1)))))] H := hP
        have hD : va_D A [(h0, .inr (10, [.ref kthis_p, .ref kthis_rates, .ref kthis_ladder, .ref h2, .ref h1, .int v0_phases, .ref kthis_now, .ref kthis_trial, .int v0_has, .int v0_thrown])), (h1, .inl (cI, 20, .inl r1)), (h2, .inl (cI, 20, .inl r2)), (h3, .inl (cJ, 760, .inr (.inl (vp_updL u3 24 ((u3 24) + 1)))))] := hD
        obtain ⟨u6, e_u6⟩ : ∃ z, z = vp_updL u3 24 ((u3 24) + 1) := ⟨_, rfl⟩
        rw [← e_u6] at hP hD
        have h := bnd_eq e_u6.symm h
        have h := Option.some.inj h
        subst h
        exact wRv S hr hlk (hP.sub [0, 1, 2, 3] rfl) (hD.sub [0, 1, 2, 3] (by decide) rfl) hS dX10_receives_208
    · have h := iteN c1 h
      refine lv_aload_n hx hb dX10_receives_135 rfl (lv_at hl 0 rfl) ?_
      refine lv_bipush (v := 25) hx hb dX10_receives_136 lb_25 ?_
      refine lv_iload_n hx hb dX10_receives_138 rfl (lv_at hl 1 rfl) ?_
      refine lv_iadd hx hb dX10_receives_139 ?_
      refine lv_aload_n hx hb dX10_receives_140 rfl (lv_at hl 0 rfl) ?_
      refine lv_bipush (v := 25) hx hb dX10_receives_141 lb_25 ?_
      refine lv_iload_n hx hb dX10_receives_143 rfl (lv_at hl 1 rfl) ?_
      refine lv_iadd hx hb dX10_receives_144 ?_
      refine lv_iconst (v := 1) hx hb dX10_receives_145 li_1 ?_
      refine lv_isub hx hb dX10_receives_146 ?_
      obtain ⟨g7, h⟩ := grd_eq h
      refine aldJ (k := ((25 + l3) - 1).toNatClampNeg) (q0 := 3) S hK hP rfl (vin_in g7) rfl dX10_receives_147 ?_
      refine lv_topl (fun z8 e_z8 => ?_)
      have h := bnd_eq e_z8.symm h
      obtain ⟨g9, h⟩ := grd_eq h
      refine astJ (k := (25 + l3).toNatClampNeg) (q0 := 3) S hK hP hD hS rfl (vin_in g9) rfl dX10_receives_148 (fun H locs hP hD hS => ?_)
      have hP : va_P D vwCl [(h0, .inr (10, [.ref kthis_p, .ref kthis_rates, .ref kthis_ladder, .ref h2, .ref h1, .int v0_phases, .ref kthis_now, .ref kthis_trial, .int v0_has, .int v0_thrown])), (h1, .inl (cI, 20, .inl r1)), (h2, .inl (cI, 20, .inl r2)), (h3, .inl (cJ, 760, .inr (.inl (vp_updL r3 (25 + l3).toNatClampNeg z8))))] H := hP
      have hD : va_D A [(h0, .inr (10, [.ref kthis_p, .ref kthis_rates, .ref kthis_ladder, .ref h2, .ref h1, .int v0_phases, .ref kthis_now, .ref kthis_trial, .int v0_has, .int v0_thrown])), (h1, .inl (cI, 20, .inl r1)), (h2, .inl (cI, 20, .inl r2)), (h3, .inl (cJ, 760, .inr (.inl (vp_updL r3 (25 + l3).toNatClampNeg z8))))] := hD
      obtain ⟨u10, e_u10⟩ : ∃ z, z = vp_updL r3 (25 + l3).toNatClampNeg z8 := ⟨_, rfl⟩
      rw [← e_u10] at hP hD
      have h := bnd_eq e_u10.symm h
      refine lv_aload_n hx hb dX10_receives_149 rfl (lv_at hl 0 rfl) ?_
      refine lv_bipush (v := 35) hx hb dX10_receives_150 lb_35 ?_
      refine lv_iload_n hx hb dX10_receives_152 rfl (lv_at hl 1 rfl) ?_
      refine lv_iadd hx hb dX10_receives_153 ?_
      refine lv_aload_n hx hb dX10_receives_154 rfl (lv_at hl 0 rfl) ?_
      refine lv_bipush (v := 35) hx hb dX10_receives_155 lb_35 ?_
      refine lv_iload_n hx hb dX10_receives_157 rfl (lv_at hl 1 rfl) ?_
      refine lv_iadd hx hb dX10_receives_158 ?_
      refine lv_iconst (v := 1) hx hb dX10_receives_159 li_1 ?_
      refine lv_isub hx hb dX10_receives_160 ?_
      obtain ⟨g11, h⟩ := grd_eq h
      refine aldJ (k := ((35 + l3) - 1).toNatClampNeg) (q0 := 3) S hK hP rfl (vin_in g11) rfl dX10_receives_161 ?_
      refine lv_topl (fun z12 e_z12 => ?_)
      have h := bnd_eq e_z12.symm h
      obtain ⟨g13, h⟩ := grd_eq h
      refine astJ (k := (35 + l3).toNatClampNeg) (q0 := 3) S hK hP hD hS rfl (vin_in g13) rfl dX10_receives_162 (fun H locs hP hD hS => ?_)
      have hP : va_P D vwCl [(h0, .inr (10, [.ref kthis_p, .ref kthis_rates, .ref kthis_ladder, .ref h2, .ref h1, .int v0_phases, .ref kthis_now, .ref kthis_trial, .int v0_has, .int v0_thrown])), (h1, .inl (cI, 20, .inl r1)), (h2, .inl (cI, 20, .inl r2)), (h3, .inl (cJ, 760, .inr (.inl (vp_updL u10 (35 + l3).toNatClampNeg z12))))] H := hP
      have hD : va_D A [(h0, .inr (10, [.ref kthis_p, .ref kthis_rates, .ref kthis_ladder, .ref h2, .ref h1, .int v0_phases, .ref kthis_now, .ref kthis_trial, .int v0_has, .int v0_thrown])), (h1, .inl (cI, 20, .inl r1)), (h2, .inl (cI, 20, .inl r2)), (h3, .inl (cJ, 760, .inr (.inl (vp_updL u10 (35 + l3).toNatClampNeg z12))))] := hD
      obtain ⟨u14, e_u14⟩ : ∃ z, z = vp_updL u10 (35 + l3).toNatClampNeg z12 := ⟨_, rfl⟩
      rw [← e_u14] at hP hD
      have h := bnd_eq e_u14.symm h
      refine lv_iinc (v := l3 + (-1)) (lv' := [(3, .int (l3 + (-1))), (1, .ref h3)]) hx hb dX10_receives_163 hl (k := 1) rfl rfl (by decide) rfl (fun ls hl => ?_)
      refine lv_goto (tgt := 131) hx hb dX10_receives_166 (by decide) ?_
      exact ih u14 (l3 + (-1)) _ _ _ (by first | exact mu_dnA (by assumption) hmu | exact mu_dnB (by assumption) hmu | exact mu_dnC (by assumption) hmu | exact mu_dnD (by assumption) hmu) h (hP.sub [0, 1, 2, 3] rfl) (hD.sub [0, 1, 2, 3] (by decide) rfl) hS (lv_sub hl [1, 0] rfl)
set_option maxHeartbeats 4000000 in
set_option maxRecDepth 100000 in
theorem k_X10_receives_b68 {p : Program} {l : Launch} {e : Env} {s : State} {m : MethodId} {args : Array Value} {below : List Frame} {meth : Method} {c : Code} {D : va_G} {cI cJ cC : ClassId} {h0 h1 h2 h3 kthis_p kthis_rates kthis_ladder kthis_now kthis_trial : Nat} {v0_phases v0_has v0_thrown : Int32} {r1 r2 : Nat → Int32} {t0 : Nat → Int64}{A : Nat → Prop} (S : CallFix p m c cX10_receives 6 s args TB RX10) (hr : meth.sig.returnType = none) (hlk : meth.locks = false) (hK : va_K D vwCl (ty3 cI cJ cC) s) (hA : ∀ q : Nat, s.heap.size ≤ q → A q) : ∀ (r3 : Nat → Int64) (H : Heap) (locs : List Loc) (ls : Array Slot), f_X10_receives_b68 r3 = some t0 → va_P D vwCl [(h0, .inr (10, [.ref kthis_p, .ref kthis_rates, .ref kthis_ladder, .ref h2, .ref h1, .int v0_phases, .ref kthis_now, .ref kthis_trial, .int v0_has, .int v0_thrown])), (h1, .inl (cI, 20, .inl r1)), (h2, .inl (cI, 20, .inl r2)), (h3, .inl (cJ, 760, .inr (.inl r3)))] H → va_D A [(h0, .inr (10, [.ref kthis_p, .ref kthis_rates, .ref kthis_ladder, .ref h2, .ref h1, .int v0_phases, .ref kthis_now, .ref kthis_trial, .int v0_has, .int v0_thrown])), (h1, .inl (cI, 20, .inl r1)), (h2, .inl (cI, 20, .inl r2)), (h3, .inl (cJ, 760, .inr (.inl r3)))] → va_S A s.heap H locs → lv_has ls 6 [(1, .ref h3)] → W p l e rm_X10_receives s m args below meth c H locs 0 0 (MQ below (QW none D [(h0, .inr (10, [.ref kthis_p, .ref kthis_rates, .ref kthis_ladder, .ref h2, .ref h1, .int v0_phases, .ref kthis_now, .ref kthis_trial, .int v0_has, .int v0_thrown])), (h1, .inl (cI, 20, .inl r1)), (h2, .inl (cI, 20, .inl r2)), (h3, .inl (cJ, 760, .inr (.inl t0)))] A) args s 0 0 A) (F0 m 68 ls []) := by
  have hx := S.1
  have hb := S.2.1
  intro r3 H locs ls h hP hD hS hl
  refine lv_aload_n hx hb dX10_receives_68 rfl (lv_at hl 0 rfl) ?_
  refine lv_bipush (v := 11) hx hb dX10_receives_69 lb_11 ?_
  refine aldJ (k := 11) (q0 := 3) S hK hP rfl vl_11_760 tn_11 dX10_receives_71 ?_
  refine lv_aload_n hx hb dX10_receives_72 rfl (lv_at hl 0 rfl) ?_
  refine lv_bipush (v := 12) hx hb dX10_receives_73 lb_12 ?_
  refine aldJ (k := 12) (q0 := 3) S hK hP rfl vl_12_760 tn_12 dX10_receives_75 ?_
  refine lc_ge (tgt := 81) hx hb dX10_receives_76 dX10_receives_77 (by decide) (fun c1 => ?_) (fun c1 => ?_)
  · have h := iteP c1 h
    refine lv_aload_n hx hb dX10_receives_81 rfl (lv_at hl 0 rfl) ?_
    refine lv_bipush (v := 6) hx hb dX10_receives_82 lb_6 ?_
    refine aldJ (k := 6) (q0 := 3) S hK hP rfl vl_6_760 tn_6 dX10_receives_84 ?_
    refine lv_l2i hx hb dX10_receives_85 rfl ?_
    refine lv_istore_n (lv' := [(2, .int ((r3 6).toInt32)), (1, .ref h3)]) hx hb dX10_receives_86 rfl hl (by decide) rfl (fun ls hl => ?_)
    refine lv_aload_n hx hb dX10_receives_87 rfl (lv_at hl 1 rfl) ?_
    refine lv_bipush (v := 50) hx hb dX10_receives_88 lb_50 ?_
    refine lv_sipush (v := 200) hx hb dX10_receives_90 ls_200 ?_
    refine lv_iload_n hx hb dX10_receives_93 rfl (lv_at hl 0 rfl) ?_
    refine lv_imul hx hb dX10_receives_94 ?_
    refine lv_iadd hx hb dX10_receives_95 ?_
    refine lv_aload_n hx hb dX10_receives_96 rfl (lv_at hl 1 rfl) ?_
    refine lv_bipush (v := 7) hx hb dX10_receives_97 lb_7 ?_
    refine aldJ (k := 7) (q0 := 3) S hK hP rfl vl_7_760 tn_7 dX10_receives_99 ?_
    refine lv_l2i hx hb dX10_receives_100 rfl ?_
    refine lv_iadd hx hb dX10_receives_101 ?_
    refine lv_aload_n hx hb dX10_receives_102 rfl (lv_at hl 1 rfl) ?_
    refine lv_bipush (v := 8) hx hb dX10_receives_103 lb_8 ?_
    refine aldJ (k := 8) (q0 := 3) S hK hP rfl vl_8_760 tn_8 dX10_receives_105 ?_
    obtain ⟨g2, h⟩ := grd_eq h
    refine astJ (k := ((50 + (200 * ((r3 6).toInt32))) + ((r3 7).toInt32)).toNatClampNeg) (q0 := 3) S hK hP hD hS rfl (vin_in g2) rfl dX10_receives_106 (fun H locs hP hD hS => ?_)
    have hP : va_P D vwCl [(h0, .inr (10, [.ref kthis_p, .ref kthis_rates, .ref kthis_ladder, .ref h2, .ref h1, .int v0_phases, .ref kthis_now, .ref kthis_trial, .int v0_has, .int v0_thrown])), (h1, .inl (cI, 20, .inl r1)), (h2, .inl (cI, 20, .inl r2)), (h3, .inl (cJ, 760, .inr (.inl (vp_updL r3 ((50 + (200 * ((r3 6).toInt32))) + ((r3 7).toInt32)).toNatClampNeg (r3 8)))))] H := hP
    have hD : va_D A [(h0, .inr (10, [.ref kthis_p, .ref kthis_rates, .ref kthis_ladder, .ref h2, .ref h1, .int v0_phases, .ref kthis_now, .ref kthis_trial, .int v0_has, .int v0_thrown])), (h1, .inl (cI, 20, .inl r1)), (h2, .inl (cI, 20, .inl r2)), (h3, .inl (cJ, 760, .inr (.inl (vp_updL r3 ((50 + (200 * ((r3 6).toInt32))) + ((r3 7).toInt32)).toNatClampNeg (r3 8)))))] := hD
    obtain ⟨u3, e_u3⟩ : ∃ z, z = vp_updL r3 ((50 + (200 * ((r3 6).toInt32))) + ((r3 7).toInt32)).toNatClampNeg (r3 8) := ⟨_, rfl⟩
    rw [← e_u3] at hP hD
    have h := bnd_eq e_u3.symm h
    refine lv_aload_n hx hb dX10_receives_107 rfl (lv_at hl 1 rfl) ?_
    refine lv_iconst (v := 3) hx hb dX10_receives_108 li_3 ?_
    refine lv_iload_n hx hb dX10_receives_109 rfl (lv_at hl 0 rfl) ?_
    refine lv_iadd hx hb dX10_receives_110 ?_
    refine lv_dup2_11 hx hb dX10_receives_111 rfl rfl ?_
    obtain ⟨g4, h⟩ := grd_eq h
    refine aldJ (k := (3 + ((r3 6).toInt32)).toNatClampNeg) (q0 := 3) S hK hP rfl (vin_in g4) rfl dX10_receives_112 ?_
    refine lv_lconst (v := 1) hx hb dX10_receives_113 rfl ?_
    refine lv_ladd hx hb dX10_receives_114 ?_
    refine lv_topl (fun z5 e_z5 => ?_)
    have h := bnd_eq e_z5.symm h
    obtain ⟨g6, h⟩ := grd_eq h
    refine astJ (k := (3 + ((r3 6).toInt32)).toNatClampNeg) (q0 := 3) S hK hP hD hS rfl (vin_in g6) rfl dX10_receives_115 (fun H locs hP hD hS => ?_)
    have hP : va_P D vwCl [(h0, .inr (10, [.ref kthis_p, .ref kthis_rates, .ref kthis_ladder, .ref h2, .ref h1, .int v0_phases, .ref kthis_now, .ref kthis_trial, .int v0_has, .int v0_thrown])), (h1, .inl (cI, 20, .inl r1)), (h2, .inl (cI, 20, .inl r2)), (h3, .inl (cJ, 760, .inr (.inl (vp_updL u3 (3 + ((r3 6).toInt32)).toNatClampNeg z5))))] H := hP
    have hD : va_D A [(h0, .inr (10, [.ref kthis_p, .ref kthis_rates, .ref kthis_ladder, .ref h2, .ref h1, .int v0_phases, .ref kthis_now, .ref kthis_trial, .int v0_has, .int v0_thrown])), (h1, .inl (cI, 20, .inl r1)), (h2, .inl (cI, 20, .inl r2)), (h3, .inl (cJ, 760, .inr (.inl (vp_updL u3 (3 + ((r3 6).toInt32)).toNatClampNeg z5))))] := hD
    obtain ⟨u7, e_u7⟩ : ∃ z, z = vp_updL u3 (3 + ((r3 6).toInt32)).toNatClampNeg z5 := ⟨_, rfl⟩
    rw [← e_u7] at hP hD
    have h := bnd_eq e_u7.symm h
    refine lv_aload_n hx hb dX10_receives_116 rfl (lv_at hl 1 rfl) ?_
    refine lv_iconst (v := 5) hx hb dX10_receives_117 li_5 ?_
    refine lv_lconst (v := 0) hx hb dX10_receives_118 rfl ?_
    refine astJ (k := 5) (q0 := 3) S hK hP hD hS rfl vl_5_760 tn_5 dX10_receives_119 (fun H locs hP hD hS => ?_)
    have hP : va_P D vwCl [(h0, .inr (10, [.ref kthis_p, .ref kthis_rates, .ref kthis_ladder, .ref h2, .ref h1, .int v0_phases, .ref kthis_now, .ref kthis_trial, .int v0_has, .int v0_thrown])), (h1, .inl (cI, 20, .inl r1)), (h2, .inl (cI, 20, .inl r2)), (h3, .inl (cJ, 760, .inr (.inl (vp_updL u7 5 0))))] H := hP
    have hD : va_D A [(h0, .inr (10, [.ref kthis_p, .ref kthis_rates, .ref kthis_ladder, .ref h2, .ref h1, .int v0_phases, .ref kthis_now, .ref kthis_trial, .int v0_has, .int v0_thrown])), (h1, .inl (cI, 20, .inl r1)), (h2, .inl (cI, 20, .inl r2)), (h3, .inl (cJ, 760, .inr (.inl (vp_updL u7 5 0))))] := hD
    obtain ⟨u8, e_u8⟩ : ∃ z, z = vp_updL u7 5 0 := ⟨_, rfl⟩
    rw [← e_u8] at hP hD
    have h := bnd_eq e_u8.symm h
    refine lv_aload_n hx hb dX10_receives_120 rfl (lv_at hl 1 rfl) ?_
    refine lv_bipush (v := 20) hx hb dX10_receives_121 lb_20 ?_
    refine lv_dup2_11 hx hb dX10_receives_123 rfl rfl ?_
    refine aldJ (k := 20) (q0 := 3) S hK hP rfl vl_20_760 tn_20 dX10_receives_124 ?_
    refine lv_lconst (v := 1) hx hb dX10_receives_125 rfl ?_
    refine lv_ladd hx hb dX10_receives_126 ?_
    refine astJ (k := 20) (q0 := 3) S hK hP hD hS rfl vl_20_760 tn_20 dX10_receives_127 (fun H locs hP hD hS => ?_)
    have hP : va_P D vwCl [(h0, .inr (10, [.ref kthis_p, .ref kthis_rates, .ref kthis_ladder, .ref h2, .ref h1, .int v0_phases, .ref kthis_now, .ref kthis_trial, .int v0_has, .int v0_thrown])), (h1, .inl (cI, 20, .inl r1)), (h2, .inl (cI, 20, .inl r2)), (h3, .inl (cJ, 760, .inr (.inl (vp_updL u8 20 ((u8 20) + 1)))))] H := hP
    have hD : va_D A [(h0, .inr (10, [.ref kthis_p, .ref kthis_rates, .ref kthis_ladder, .ref h2, .ref h1, .int v0_phases, .ref kthis_now, .ref kthis_trial, .int v0_has, .int v0_thrown])), (h1, .inl (cI, 20, .inl r1)), (h2, .inl (cI, 20, .inl r2)), (h3, .inl (cJ, 760, .inr (.inl (vp_updL u8 20 ((u8 20) + 1)))))] := hD
    obtain ⟨u9, e_u9⟩ : ∃ z, z = vp_updL u8 20 ((u8 20) + 1) := ⟨_, rfl⟩
    rw [← e_u9] at hP hD
    have h := bnd_eq e_u9.symm h
    refine lv_bipush (v := 9) hx hb dX10_receives_128 lb_9 ?_
    refine lv_istore_n (lv' := [(3, .int 9), (2, .int ((r3 6).toInt32)), (1, .ref h3)]) hx hb dX10_receives_130 rfl hl (by decide) rfl (fun ls hl => ?_)
    exact k_X10_receives_b131 S hr hlk hK hA _ u9 9 _ _ _ (Nat.lt_succ_self _) h (hP.sub [0, 1, 2, 3] rfl) (hD.sub [0, 1, 2, 3] (by decide) rfl) hS (lv_sub hl [2, 0] rfl)
  · have h := iteN c1 h
    have h := Option.some.inj h
    subst h
    exact wRv S hr hlk (hP.sub [0, 1, 2, 3] rfl) (hD.sub [0, 1, 2, 3] (by decide) rfl) hS dX10_receives_80
set_option maxHeartbeats 4000000 in
set_option maxRecDepth 100000 in
theorem k_X10_receives_b66 {p : Program} {l : Launch} {e : Env} {s : State} {m : MethodId} {args : Array Value} {below : List Frame} {meth : Method} {c : Code} {D : va_G} {cI cJ cC : ClassId} {h0 h1 h2 h3 kthis_p kthis_rates kthis_ladder kthis_now kthis_trial : Nat} {v0_phases v0_has v0_thrown : Int32} {r1 r2 : Nat → Int32} {t0 : Nat → Int64}{A : Nat → Prop} (S : CallFix p m c cX10_receives 6 s args TB RX10) (hr : meth.sig.returnType = none) (hlk : meth.locks = false) (hK : va_K D vwCl (ty3 cI cJ cC) s) (hA : ∀ q : Nat, s.heap.size ≤ q → A q) : ∀ (r3 : Nat → Int64) (s1 : Int32) (s2 s3 : Int64) (H : Heap) (locs : List Loc) (ls : Array Slot), f_X10_receives_b66 r3 s1 s2 s3 = some t0 → va_P D vwCl [(h0, .inr (10, [.ref kthis_p, .ref kthis_rates, .ref kthis_ladder, .ref h2, .ref h1, .int v0_phases, .ref kthis_now, .ref kthis_trial, .int v0_has, .int v0_thrown])), (h1, .inl (cI, 20, .inl r1)), (h2, .inl (cI, 20, .inl r2)), (h3, .inl (cJ, 760, .inr (.inl r3)))] H → va_D A [(h0, .inr (10, [.ref kthis_p, .ref kthis_rates, .ref kthis_ladder, .ref h2, .ref h1, .int v0_phases, .ref kthis_now, .ref kthis_trial, .int v0_has, .int v0_thrown])), (h1, .inl (cI, 20, .inl r1)), (h2, .inl (cI, 20, .inl r2)), (h3, .inl (cJ, 760, .inr (.inl r3)))] → va_S A s.heap H locs → lv_has ls 6 [(1, .ref h3)] → W p l e rm_X10_receives s m args below meth c H locs 0 0 (MQ below (QW none D [(h0, .inr (10, [.ref kthis_p, .ref kthis_rates, .ref kthis_ladder, .ref h2, .ref h1, .int v0_phases, .ref kthis_now, .ref kthis_trial, .int v0_has, .int v0_thrown])), (h1, .inl (cI, 20, .inl r1)), (h2, .inl (cI, 20, .inl r2)), (h3, .inl (cJ, 760, .inr (.inl t0)))] A) args s 0 0 A) (F0 m 66 ls [.long s3, .long s2, .int s1, .ref h3]) := by
  have hx := S.1
  have hb := S.2.1
  intro r3 s1 s2 s3 H locs ls h hP hD hS hl
  refine lv_ladd hx hb dX10_receives_66 ?_
  obtain ⟨g1, h⟩ := grd_eq h
  refine astJ (k := s1.toNatClampNeg) (q0 := 3) S hK hP hD hS rfl (vin_in g1) rfl dX10_receives_67 (fun H locs hP hD hS => ?_)
  have hP : va_P D vwCl [(h0, .inr (10, [.ref kthis_p, .ref kthis_rates, .ref kthis_ladder, .ref h2, .ref h1, .int v0_phases, .ref kthis_now, .ref kthis_trial, .int v0_has, .int v0_thrown])), (h1, .inl (cI, 20, .inl r1)), (h2, .inl (cI, 20, .inl r2)), (h3, .inl (cJ, 760, .inr (.inl (vp_updL r3 s1.toNatClampNeg (s2 + s3)))))] H := hP
  have hD : va_D A [(h0, .inr (10, [.ref kthis_p, .ref kthis_rates, .ref kthis_ladder, .ref h2, .ref h1, .int v0_phases, .ref kthis_now, .ref kthis_trial, .int v0_has, .int v0_thrown])), (h1, .inl (cI, 20, .inl r1)), (h2, .inl (cI, 20, .inl r2)), (h3, .inl (cJ, 760, .inr (.inl (vp_updL r3 s1.toNatClampNeg (s2 + s3)))))] := hD
  obtain ⟨u2, e_u2⟩ : ∃ z, z = vp_updL r3 s1.toNatClampNeg (s2 + s3) := ⟨_, rfl⟩
  rw [← e_u2] at hP hD
  have h := bnd_eq e_u2.symm h
  exact k_X10_receives_b68 S hr hlk hK hA u2 _ _ _ h (hP.sub [0, 1, 2, 3] rfl) (hD.sub [0, 1, 2, 3] (by decide) rfl) hS (lv_sub hl [0] rfl)
set_option maxHeartbeats 4000000 in
set_option maxRecDepth 100000 in
theorem c_X10_receives (l : Launch) (D : va_G) (cI cJ cC : ClassId) (h0 h1 h2 h3 kthis_p kthis_rates kthis_ladder kthis_now kthis_trial : Nat) (v0_phases v0_has v0_thrown : Int32) (r1 r2 : Nat → Int32) (r3 : Nat → Int64) (sz : Nat)  (t0 : Nat → Int64) (h : f_X10_receives v0_phases r1 r2 r3 = some t0) : Met l yX10_receives (Cond.code yX10_receives cX10_receives 6 none :: TB) rm_X10_receives (PreW D cI cJ cC [(h0, .inr (10, [.ref kthis_p, .ref kthis_rates, .ref kthis_ladder, .ref h2, .ref h1, .int v0_phases, .ref kthis_now, .ref kthis_trial, .int v0_has, .int v0_thrown])), (h1, .inl (cI, 20, .inl r1)), (h2, .inl (cI, 20, .inl r2)), (h3, .inl (cJ, 760, .inr (.inl r3)))] sz [.ref h0, .ref h3]) (QW none D [(h0, .inr (10, [.ref kthis_p, .ref kthis_rates, .ref kthis_ladder, .ref h2, .ref h1, .int v0_phases, .ref kthis_now, .ref kthis_trial, .int v0_has, .int v0_thrown])), (h1, .inl (cI, 20, .inl r1)), (h2, .inl (cI, 20, .inl r2)), (h3, .inl (cJ, 760, .inr (.inl t0)))] (va_A [(h0, .inr (10, [.ref kthis_p, .ref kthis_rates, .ref kthis_ladder, .ref h2, .ref h1, .int v0_phases, .ref kthis_now, .ref kthis_trial, .int v0_has, .int v0_thrown])), (h1, .inl (cI, 20, .inl r1)), (h2, .inl (cI, 20, .inl r2)), (h3, .inl (cJ, 760, .inr (.inl r3)))] sz)) 0 0 (va_A [(h0, .inr (10, [.ref kthis_p, .ref kthis_rates, .ref kthis_ladder, .ref h2, .ref h1, .int v0_phases, .ref kthis_now, .ref kthis_trial, .int v0_has, .int v0_thrown])), (h1, .inl (cI, 20, .inl r1)), (h2, .inl (cI, 20, .inl r2)), (h3, .inl (cJ, 760, .inr (.inl r3)))] sz) := by
  refine metW (own := RX10) (by decide) rfl (Nat.le_of_ble_eq_true rfl) ?_
  intro p e s m below meth c S hr hlk hP hK A hAe hD hA hS ls hl
  clear hAe
  have hx := S.1
  have hb := S.2.1
  have hl : lv_has ls 6 [(0, .ref h0), (1, .ref h3)] := hl
  refine lv_aload_n hx hb dX10_receives_0 rfl (lv_at hl 1 rfl) ?_
  refine lv_bipush (v := 10) hx hb dX10_receives_1 lb_10 ?_
  refine lv_dup2_11 hx hb dX10_receives_3 rfl rfl ?_
  refine aldJ (k := 10) (q0 := 3) S hK hP rfl vl_10_760 tn_10 dX10_receives_4 ?_
  refine lv_lconst (v := 1) hx hb dX10_receives_5 rfl ?_
  refine lv_ladd hx hb dX10_receives_6 ?_
  refine astJ (k := 10) (q0 := 3) S hK hP hD hS rfl vl_10_760 tn_10 dX10_receives_7 (fun H locs hP hD hS => ?_)
  have hP : va_P D vwCl [(h0, .inr (10, [.ref kthis_p, .ref kthis_rates, .ref kthis_ladder, .ref h2, .ref h1, .int v0_phases, .ref kthis_now, .ref kthis_trial, .int v0_has, .int v0_thrown])), (h1, .inl (cI, 20, .inl r1)), (h2, .inl (cI, 20, .inl r2)), (h3, .inl (cJ, 760, .inr (.inl (vp_updL r3 10 ((r3 10) + 1)))))] H := hP
  have hD : va_D A [(h0, .inr (10, [.ref kthis_p, .ref kthis_rates, .ref kthis_ladder, .ref h2, .ref h1, .int v0_phases, .ref kthis_now, .ref kthis_trial, .int v0_has, .int v0_thrown])), (h1, .inl (cI, 20, .inl r1)), (h2, .inl (cI, 20, .inl r2)), (h3, .inl (cJ, 760, .inr (.inl (vp_updL r3 10 ((r3 10) + 1)))))] := hD
  obtain ⟨u1, e_u1⟩ : ∃ z, z = vp_updL r3 10 ((r3 10) + 1) := ⟨_, rfl⟩
  rw [← e_u1] at hP hD
  have h := bnd_eq e_u1.symm h
  refine lv_aload_n hx hb dX10_receives_8 rfl (lv_at hl 1 rfl) ?_
  refine lv_bipush (v := 9) hx hb dX10_receives_9 lb_9 ?_
  refine aldJ (k := 9) (q0 := 3) S hK hP rfl vl_9_760 tn_9 dX10_receives_11 ?_
  refine lv_lconst (v := 0) hx hb dX10_receives_12 rfl ?_
  refine lc_le (tgt := 28) hx hb dX10_receives_13 dX10_receives_14 (by decide) (fun c2 => ?_) (fun c2 => ?_)
  · have h := iteP c2 h
    refine lv_aload_n hx hb dX10_receives_28 rfl (lv_at hl 1 rfl) ?_
    refine lv_bipush (v := 12) hx hb dX10_receives_29 lb_12 ?_
    refine aldJ (k := 12) (q0 := 3) S hK hP rfl vl_12_760 tn_12 dX10_receives_31 ?_
    refine lv_aload_n hx hb dX10_receives_32 rfl (lv_at hl 1 rfl) ?_
    refine lv_bipush (v := 11) hx hb dX10_receives_33 lb_11 ?_
    refine aldJ (k := 11) (q0 := 3) S hK hP rfl vl_11_760 tn_11 dX10_receives_35 ?_
    refine lv_lsub hx hb dX10_receives_36 ?_
    refine lv_lstore_n (lv' := [(2, .long ((u1 12) - (u1 11))), (0, .ref h0), (1, .ref h3)]) hx hb dX10_receives_37 rfl hl (by decide) rfl (fun ls hl => ?_)
    refine lv_aload_n hx hb dX10_receives_38 rfl (lv_at hl 1 rfl) ?_
    refine lv_aload_n hx hb dX10_receives_39 rfl (lv_at hl 2 rfl) ?_
    refine lv_iconst (v := 0) hx hb dX10_receives_40 li_0 ?_
    refine aldJ (k := 0) (q0 := 3) S hK hP rfl vl_0_760 tn_0 dX10_receives_41 ?_
    obtain ⟨y3, e_y3, h⟩ := obnd_eq h
    refine rdV (pc1 := 45) (rest := []) (st1 := [.int y3]) S (c_X10_flowAt l D cI cJ cC h0 h1 h2 kthis_p kthis_rates kthis_ladder kthis_now kthis_trial v0_phases v0_has v0_thrown r1 r2 (u1 0) y3 e_y3) (cw_X10_68 S.2.2.2.2 ⟨Nat.le_of_ble_eq_true rfl, Nat.le_of_ble_eq_true rfl⟩) hK (hP.sub [0, 1, 2] rfl) rfl rfl rfl rfl hl.1 rfl (Nat.le_of_ble_eq_true rfl) ⟨Nat.zero_le _, Nat.zero_le _⟩ rfl rfl dX10_receives_42 ?_
    refine lv_i2l hx hb dX10_receives_45 rfl ?_
    refine lv_lstore (lv' := [(4, .long y3.toInt64), (2, .long ((u1 12) - (u1 11))), (0, .ref h0), (1, .ref h3)]) hx hb dX10_receives_46 hl (by decide) rfl (fun ls hl => ?_)
    refine lv_aload_n hx hb dX10_receives_48 rfl (lv_at hl 3 rfl) ?_
    refine lv_bipush (v := 11) hx hb dX10_receives_49 lb_11 ?_
    refine lv_dup2_11 hx hb dX10_receives_51 rfl rfl ?_
    refine aldJ (k := 11) (q0 := 3) S hK hP rfl vl_11_760 tn_11 dX10_receives_52 ?_
    refine lv_lload hx hb dX10_receives_53 (lv_at hl 0 rfl) ?_
    refine lv_lload_n hx hb dX10_receives_55 rfl (lv_at hl 1 rfl) ?_
    refine lc_ge (tgt := 65) hx hb dX10_receives_56 dX10_receives_57 (by decide) (fun c4 => ?_) (fun c4 => ?_)
    · have h := iteP c4 h
      refine lv_lload_n hx hb dX10_receives_65 rfl (lv_at hl 1 rfl) ?_
      exact k_X10_receives_b66 S hr hlk hK hA u1 11 (u1 11) ((u1 12) - (u1 11)) _ _ _ h (hP.sub [0, 1, 2, 3] rfl) (hD.sub [0, 1, 2, 3] (by decide) rfl) hS (lv_sub hl [3] rfl)
    · have h := iteN c4 h
      refine lv_lload hx hb dX10_receives_60 (lv_at hl 0 rfl) ?_
      refine lv_goto (tgt := 66) hx hb dX10_receives_62 (by decide) ?_
      exact k_X10_receives_b66 S hr hlk hK hA u1 11 (u1 11) y3.toInt64 _ _ _ h (hP.sub [0, 1, 2, 3] rfl) (hD.sub [0, 1, 2, 3] (by decide) rfl) hS (lv_sub hl [3] rfl)
  · have h := iteN c2 h
    refine lv_aload_n hx hb dX10_receives_17 rfl (lv_at hl 1 rfl) ?_
    refine lv_bipush (v := 9) hx hb dX10_receives_18 lb_9 ?_
    refine lv_dup2_11 hx hb dX10_receives_20 rfl rfl ?_
    refine aldJ (k := 9) (q0 := 3) S hK hP rfl vl_9_760 tn_9 dX10_receives_21 ?_
    refine lv_lconst (v := 1) hx hb dX10_receives_22 rfl ?_
    refine lv_lsub hx hb dX10_receives_23 ?_
    refine astJ (k := 9) (q0 := 3) S hK hP hD hS rfl vl_9_760 tn_9 dX10_receives_24 (fun H locs hP hD hS => ?_)
    have hP : va_P D vwCl [(h0, .inr (10, [.ref kthis_p, .ref kthis_rates, .ref kthis_ladder, .ref h2, .ref h1, .int v0_phases, .ref kthis_now, .ref kthis_trial, .int v0_has, .int v0_thrown])), (h1, .inl (cI, 20, .inl r1)), (h2, .inl (cI, 20, .inl r2)), (h3, .inl (cJ, 760, .inr (.inl (vp_updL u1 9 ((u1 9) - 1)))))] H := hP
    have hD : va_D A [(h0, .inr (10, [.ref kthis_p, .ref kthis_rates, .ref kthis_ladder, .ref h2, .ref h1, .int v0_phases, .ref kthis_now, .ref kthis_trial, .int v0_has, .int v0_thrown])), (h1, .inl (cI, 20, .inl r1)), (h2, .inl (cI, 20, .inl r2)), (h3, .inl (cJ, 760, .inr (.inl (vp_updL u1 9 ((u1 9) - 1)))))] := hD
    obtain ⟨u5, e_u5⟩ : ∃ z, z = vp_updL u1 9 ((u1 9) - 1) := ⟨_, rfl⟩
    rw [← e_u5] at hP hD
    have h := bnd_eq e_u5.symm h
    refine lv_goto (tgt := 68) hx hb dX10_receives_25 (by decide) ?_
    exact k_X10_receives_b68 S hr hlk hK hA u5 _ _ _ h (hP.sub [0, 1, 2, 3] rfl) (hD.sub [0, 1, 2, 3] (by decide) rfl) hS (lv_sub hl [1] rfl)
abbrev rm_X10_up : Room := { frames := 0, cells := 0, slots := 0, locals := 0 }
theorem dX10_up_0 : decode cX10_up 0 = .ok (.lload_n 0, 1) := by decide +kernel
theorem dX10_up_1 : decode cX10_up 1 = .ok (.lload_n 2, 1) := by decide +kernel
theorem dX10_up_2 : decode cX10_up 2 = .ok (.ladd, 1) := by decide +kernel
theorem dX10_up_3 : decode cX10_up 3 = .ok (.lconst 1, 1) := by decide +kernel
theorem dX10_up_4 : decode cX10_up 4 = .ok (.lsub, 1) := by decide +kernel
theorem dX10_up_5 : decode cX10_up 5 = .ok (.lload_n 2, 1) := by decide +kernel
theorem dX10_up_6 : decode cX10_up 6 = .ok (.ldiv, 1) := by decide +kernel
theorem dX10_up_7 : decode cX10_up 7 = .ok (.lreturn, 1) := by decide +kernel
def f_X10_up (p0 p1 : Int64) : Option Int64 :=
  grd (nz64 p1) <|
  some (((p0 + p1) - 1) / p1)
set_option maxHeartbeats 4000000 in
set_option maxRecDepth 100000 in
theorem c_X10_up (l : Launch) (D : va_G) (cI cJ cC : ClassId)  (p0 p1 : Int64) (t0 : Int64) (h : f_X10_up p0 p1 = some t0) : Met l yX10_up (Cond.code yX10_up cX10_up 4 (some .long) :: TB) rm_X10_up (PreR D cI cJ cC [] [.long p0, .long p1]) (QR (some (.long t0))) 0 0 free0 := by
  refine metR (own := RX10) (by decide) rfl (Nat.le_of_ble_eq_true rfl) ?_
  intro p e s m below meth c S hr hlk hP hK ls hl
  have hx := S.1
  have hb := S.2.1
  have hl : lv_has ls 4 [(0, .long p0), (2, .long p1)] := hl
  refine lv_lload_n hx hb dX10_up_0 rfl (lv_at hl 0 rfl) ?_
  refine lv_lload_n hx hb dX10_up_1 rfl (lv_at hl 1 rfl) ?_
  refine lv_ladd hx hb dX10_up_2 ?_
  refine lv_lconst (v := 1) hx hb dX10_up_3 rfl ?_
  refine lv_lsub hx hb dX10_up_4 ?_
  refine lv_lload_n hx hb dX10_up_5 rfl (lv_at hl 1 rfl) ?_
  obtain ⟨g1, h⟩ := grd_eq h
  refine lv_ldiv hx hb dX10_up_6 (nz64_ne g1) ?_
  have h := Option.some.inj h
  subst h
  exact rRl S hr hlk dX10_up_7
abbrev rm_X10_givesUp : Room := { frames := 3, cells := 0, slots := 0, locals := 78 }
theorem dX10_givesUp_0 : decode cX10_givesUp 0 = .ok (.aload_n 1, 1) := by decide +kernel
theorem dX10_givesUp_1 : decode cX10_givesUp 1 = .ok (.bipush 6, 2) := by decide +kernel
theorem dX10_givesUp_3 : decode cX10_givesUp 3 = .ok (.laload, 1) := by decide +kernel
theorem dX10_givesUp_4 : decode cX10_givesUp 4 = .ok (.lconst 0, 1) := by decide +kernel
theorem dX10_givesUp_5 : decode cX10_givesUp 5 = .ok (.lcmp, 1) := by decide +kernel
theorem dX10_givesUp_6 : decode cX10_givesUp 6 = .ok (.ifCond .ne 44, 3) := by decide +kernel
theorem dX10_givesUp_9 : decode cX10_givesUp 9 = .ok (.aload_n 1, 1) := by decide +kernel
theorem dX10_givesUp_10 : decode cX10_givesUp 10 = .ok (.bipush 8, 2) := by decide +kernel
theorem dX10_givesUp_12 : decode cX10_givesUp 12 = .ok (.laload, 1) := by decide +kernel
theorem dX10_givesUp_13 : decode cX10_givesUp 13 = .ok (.lconst 0, 1) := by decide +kernel
theorem dX10_givesUp_14 : decode cX10_givesUp 14 = .ok (.lcmp, 1) := by decide +kernel
theorem dX10_givesUp_15 : decode cX10_givesUp 15 = .ok (.ifCond .eq 35, 3) := by decide +kernel
theorem dX10_givesUp_18 : decode cX10_givesUp 18 = .ok (.aload_n 1, 1) := by decide +kernel
theorem dX10_givesUp_19 : decode cX10_givesUp 19 = .ok (.bipush 11, 2) := by decide +kernel
theorem dX10_givesUp_21 : decode cX10_givesUp 21 = .ok (.laload, 1) := by decide +kernel
theorem dX10_givesUp_22 : decode cX10_givesUp 22 = .ok (.lconst 0, 1) := by decide +kernel
theorem dX10_givesUp_23 : decode cX10_givesUp 23 = .ok (.lcmp, 1) := by decide +kernel
theorem dX10_givesUp_24 : decode cX10_givesUp 24 = .ok (.ifCond .eq 26, 3) := by decide +kernel
theorem dX10_givesUp_27 : decode cX10_givesUp 27 = .ok (.aload_n 1, 1) := by decide +kernel
theorem dX10_givesUp_28 : decode cX10_givesUp 28 = .ok (.bipush 10, 2) := by decide +kernel
theorem dX10_givesUp_30 : decode cX10_givesUp 30 = .ok (.laload, 1) := by decide +kernel
theorem dX10_givesUp_31 : decode cX10_givesUp 31 = .ok (.aload_n 0, 1) := by decide +kernel
theorem dX10_givesUp_32 : decode cX10_givesUp 32 = .ok (.getfield 7, 3) := by decide +kernel
theorem dX10_givesUp_35 : decode cX10_givesUp 35 = .ok (.bipush 11, 2) := by decide +kernel
theorem dX10_givesUp_37 : decode cX10_givesUp 37 = .ok (.iaload, 1) := by decide +kernel
theorem dX10_givesUp_38 : decode cX10_givesUp 38 = .ok (.aload_n 0, 1) := by decide +kernel
theorem dX10_givesUp_39 : decode cX10_givesUp 39 = .ok (.getfield 7, 3) := by decide +kernel
theorem dX10_givesUp_42 : decode cX10_givesUp 42 = .ok (.iconst 2, 1) := by decide +kernel
theorem dX10_givesUp_43 : decode cX10_givesUp 43 = .ok (.iaload, 1) := by decide +kernel
theorem dX10_givesUp_44 : decode cX10_givesUp 44 = .ok (.iadd, 1) := by decide +kernel
theorem dX10_givesUp_45 : decode cX10_givesUp 45 = .ok (.i2l, 1) := by decide +kernel
theorem dX10_givesUp_46 : decode cX10_givesUp 46 = .ok (.lcmp, 1) := by decide +kernel
theorem dX10_givesUp_47 : decode cX10_givesUp 47 = .ok (.ifCond .ge 4, 3) := by decide +kernel
theorem dX10_givesUp_50 : decode cX10_givesUp 50 = .ok (.return_, 1) := by decide +kernel
theorem dX10_givesUp_51 : decode cX10_givesUp 51 = .ok (.aload_n 1, 1) := by decide +kernel
theorem dX10_givesUp_52 : decode cX10_givesUp 52 = .ok (.bipush 12, 2) := by decide +kernel
theorem dX10_givesUp_54 : decode cX10_givesUp 54 = .ok (.laload, 1) := by decide +kernel
theorem dX10_givesUp_55 : decode cX10_givesUp 55 = .ok (.aload_n 1, 1) := by decide +kernel
theorem dX10_givesUp_56 : decode cX10_givesUp 56 = .ok (.bipush 11, 2) := by decide +kernel
theorem dX10_givesUp_58 : decode cX10_givesUp 58 = .ok (.laload, 1) := by decide +kernel
theorem dX10_givesUp_59 : decode cX10_givesUp 59 = .ok (.lsub, 1) := by decide +kernel
theorem dX10_givesUp_60 : decode cX10_givesUp 60 = .ok (.aload_n 1, 1) := by decide +kernel
theorem dX10_givesUp_61 : decode cX10_givesUp 61 = .ok (.bipush 10, 2) := by decide +kernel
theorem dX10_givesUp_63 : decode cX10_givesUp 63 = .ok (.laload, 1) := by decide +kernel
theorem dX10_givesUp_64 : decode cX10_givesUp 64 = .ok (.lmul, 1) := by decide +kernel
theorem dX10_givesUp_65 : decode cX10_givesUp 65 = .ok (.aload_n 1, 1) := by decide +kernel
theorem dX10_givesUp_66 : decode cX10_givesUp 66 = .ok (.bipush 11, 2) := by decide +kernel
theorem dX10_givesUp_68 : decode cX10_givesUp 68 = .ok (.laload, 1) := by decide +kernel
theorem dX10_givesUp_69 : decode cX10_givesUp 69 = .ok (.invokestatic 118, 3) := by decide +kernel
theorem dX10_givesUp_72 : decode cX10_givesUp 72 = .ok (.lstore_n 2, 1) := by decide +kernel
theorem dX10_givesUp_73 : decode cX10_givesUp 73 = .ok (.ldc2_w 122, 3) := by decide +kernel
theorem dX10_givesUp_76 : decode cX10_givesUp 76 = .ok (.lstore 4, 2) := by decide +kernel
theorem dX10_givesUp_78 : decode cX10_givesUp 78 = .ok (.lconst 0, 1) := by decide +kernel
theorem dX10_givesUp_79 : decode cX10_givesUp 79 = .ok (.lstore 6, 2) := by decide +kernel
theorem dX10_givesUp_81 : decode cX10_givesUp 81 = .ok (.lload 6, 2) := by decide +kernel
theorem dX10_givesUp_83 : decode cX10_givesUp 83 = .ok (.aload_n 1, 1) := by decide +kernel
theorem dX10_givesUp_84 : decode cX10_givesUp 84 = .ok (.bipush 8, 2) := by decide +kernel
theorem dX10_givesUp_86 : decode cX10_givesUp 86 = .ok (.laload, 1) := by decide +kernel
theorem dX10_givesUp_87 : decode cX10_givesUp 87 = .ok (.lcmp, 1) := by decide +kernel
theorem dX10_givesUp_88 : decode cX10_givesUp 88 = .ok (.ifCond .ge 49, 3) := by decide +kernel
theorem dX10_givesUp_91 : decode cX10_givesUp 91 = .ok (.aload_n 0, 1) := by decide +kernel
theorem dX10_givesUp_92 : decode cX10_givesUp 92 = .ok (.iconst 0, 1) := by decide +kernel
theorem dX10_givesUp_93 : decode cX10_givesUp 93 = .ok (.lload 6, 2) := by decide +kernel
theorem dX10_givesUp_95 : decode cX10_givesUp 95 = .ok (.aload_n 1, 1) := by decide +kernel
theorem dX10_givesUp_96 : decode cX10_givesUp 96 = .ok (.bipush 7, 2) := by decide +kernel
theorem dX10_givesUp_98 : decode cX10_givesUp 98 = .ok (.laload, 1) := by decide +kernel
theorem dX10_givesUp_99 : decode cX10_givesUp 99 = .ok (.invokevirtual 84, 3) := by decide +kernel
theorem dX10_givesUp_102 : decode cX10_givesUp 102 = .ok (.aload_n 1, 1) := by decide +kernel
theorem dX10_givesUp_103 : decode cX10_givesUp 103 = .ok (.bipush 10, 2) := by decide +kernel
theorem dX10_givesUp_105 : decode cX10_givesUp 105 = .ok (.laload, 1) := by decide +kernel
theorem dX10_givesUp_106 : decode cX10_givesUp 106 = .ok (.lmul, 1) := by decide +kernel
theorem dX10_givesUp_107 : decode cX10_givesUp 107 = .ok (.aload_n 1, 1) := by decide +kernel
theorem dX10_givesUp_108 : decode cX10_givesUp 108 = .ok (.bipush 11, 2) := by decide +kernel
theorem dX10_givesUp_110 : decode cX10_givesUp 110 = .ok (.laload, 1) := by decide +kernel
theorem dX10_givesUp_111 : decode cX10_givesUp 111 = .ok (.invokestatic 118, 3) := by decide +kernel
theorem dX10_givesUp_114 : decode cX10_givesUp 114 = .ok (.lload_n 2, 1) := by decide +kernel
theorem dX10_givesUp_115 : decode cX10_givesUp 115 = .ok (.lcmp, 1) := by decide +kernel
theorem dX10_givesUp_116 : decode cX10_givesUp 116 = .ok (.ifCond .ge 8, 3) := by decide +kernel
theorem dX10_givesUp_119 : decode cX10_givesUp 119 = .ok (.lload 6, 2) := by decide +kernel
theorem dX10_givesUp_121 : decode cX10_givesUp 121 = .ok (.goto 5, 3) := by decide +kernel
theorem dX10_givesUp_124 : decode cX10_givesUp 124 = .ok (.lload 4, 2) := by decide +kernel
theorem dX10_givesUp_126 : decode cX10_givesUp 126 = .ok (.lstore 4, 2) := by decide +kernel
theorem dX10_givesUp_128 : decode cX10_givesUp 128 = .ok (.lload 6, 2) := by decide +kernel
theorem dX10_givesUp_130 : decode cX10_givesUp 130 = .ok (.lconst 1, 1) := by decide +kernel
theorem dX10_givesUp_131 : decode cX10_givesUp 131 = .ok (.ladd, 1) := by decide +kernel
theorem dX10_givesUp_132 : decode cX10_givesUp 132 = .ok (.lstore 6, 2) := by decide +kernel
theorem dX10_givesUp_134 : decode cX10_givesUp 134 = .ok (.goto (-53), 3) := by decide +kernel
theorem dX10_givesUp_137 : decode cX10_givesUp 137 = .ok (.lload_n 2, 1) := by decide +kernel
theorem dX10_givesUp_138 : decode cX10_givesUp 138 = .ok (.aload_n 0, 1) := by decide +kernel
theorem dX10_givesUp_139 : decode cX10_givesUp 139 = .ok (.aload_n 1, 1) := by decide +kernel
theorem dX10_givesUp_140 : decode cX10_givesUp 140 = .ok (.iconst 0, 1) := by decide +kernel
theorem dX10_givesUp_141 : decode cX10_givesUp 141 = .ok (.invokevirtual 88, 3) := by decide +kernel
theorem dX10_givesUp_144 : decode cX10_givesUp 144 = .ok (.lcmp, 1) := by decide +kernel
theorem dX10_givesUp_145 : decode cX10_givesUp 145 = .ok (.ifCond .le 41, 3) := by decide +kernel
theorem dX10_givesUp_148 : decode cX10_givesUp 148 = .ok (.lload 4, 2) := by decide +kernel
theorem dX10_givesUp_150 : decode cX10_givesUp 150 = .ok (.lconst 0, 1) := by decide +kernel
theorem dX10_givesUp_151 : decode cX10_givesUp 151 = .ok (.lcmp, 1) := by decide +kernel
theorem dX10_givesUp_152 : decode cX10_givesUp 152 = .ok (.ifCond .lt 34, 3) := by decide +kernel
theorem dX10_givesUp_155 : decode cX10_givesUp 155 = .ok (.aload_n 1, 1) := by decide +kernel
theorem dX10_givesUp_156 : decode cX10_givesUp 156 = .ok (.bipush 21, 2) := by decide +kernel
theorem dX10_givesUp_158 : decode cX10_givesUp 158 = .ok (.dup2, 1) := by decide +kernel
theorem dX10_givesUp_159 : decode cX10_givesUp 159 = .ok (.laload, 1) := by decide +kernel
theorem dX10_givesUp_160 : decode cX10_givesUp 160 = .ok (.aload_n 1, 1) := by decide +kernel
theorem dX10_givesUp_161 : decode cX10_givesUp 161 = .ok (.bipush 11, 2) := by decide +kernel
theorem dX10_givesUp_163 : decode cX10_givesUp 163 = .ok (.laload, 1) := by decide +kernel
theorem dX10_givesUp_164 : decode cX10_givesUp 164 = .ok (.ladd, 1) := by decide +kernel
theorem dX10_givesUp_165 : decode cX10_givesUp 165 = .ok (.lastore, 1) := by decide +kernel
theorem dX10_givesUp_166 : decode cX10_givesUp 166 = .ok (.aload_n 1, 1) := by decide +kernel
theorem dX10_givesUp_167 : decode cX10_givesUp 167 = .ok (.bipush 19, 2) := by decide +kernel
theorem dX10_givesUp_169 : decode cX10_givesUp 169 = .ok (.dup2, 1) := by decide +kernel
theorem dX10_givesUp_170 : decode cX10_givesUp 170 = .ok (.laload, 1) := by decide +kernel
theorem dX10_givesUp_171 : decode cX10_givesUp 171 = .ok (.lconst 1, 1) := by decide +kernel
theorem dX10_givesUp_172 : decode cX10_givesUp 172 = .ok (.ladd, 1) := by decide +kernel
theorem dX10_givesUp_173 : decode cX10_givesUp 173 = .ok (.lastore, 1) := by decide +kernel
theorem dX10_givesUp_174 : decode cX10_givesUp 174 = .ok (.aload_n 0, 1) := by decide +kernel
theorem dX10_givesUp_175 : decode cX10_givesUp 175 = .ok (.aload_n 1, 1) := by decide +kernel
theorem dX10_givesUp_176 : decode cX10_givesUp 176 = .ok (.iconst 0, 1) := by decide +kernel
theorem dX10_givesUp_177 : decode cX10_givesUp 177 = .ok (.aload_n 1, 1) := by decide +kernel
theorem dX10_givesUp_178 : decode cX10_givesUp 178 = .ok (.bipush 7, 2) := by decide +kernel
theorem dX10_givesUp_180 : decode cX10_givesUp 180 = .ok (.laload, 1) := by decide +kernel
theorem dX10_givesUp_181 : decode cX10_givesUp 181 = .ok (.lload 4, 2) := by decide +kernel
theorem dX10_givesUp_183 : decode cX10_givesUp 183 = .ok (.invokevirtual 110, 3) := by decide +kernel
theorem dX10_givesUp_186 : decode cX10_givesUp 186 = .ok (.return_, 1) := by decide +kernel
theorem cw_X10_118 {R : Room} {s : State} {args : Array Value} (hts : ∀ w ∈ TB, w.before args s = true) (hR : rm_X10_up.frames + 1 ≤ R.frames ∧ 8 + (4 + 11) + rm_X10_up.locals ≤ R.locals) : CallB R s args RX10 118 yX10_up cX10_up 4 (some .long) (Cond.code yX10_up cX10_up 4 (some .long) :: TB) rm_X10_up 0 0 2 ∧ (Cond.static yX10_up).before args s = true := cwS 2 hts (gS tb1116 tb1117 tb57 tb1118) rfl rfl rfl ⟨rfl, by decide, by decide, by decide +kernel⟩ hR
def f_X10_givesUp_b81 (r1 r2 : Nat → Int32) : Nat → (Nat → Int64) → Int64 → Int64 → Int64 → Option (Nat → Int64)
  | 0, _, _, _, _ => none
  | n + 1, r3, l2, l4, l6 =>
    if (r3 8) ≤ l6 then
      obnd (f_X10_bufferOf r1 r3 0) fun (z2 : Int64) =>
      if l2 ≤ z2 then
        some r3
      else
        if l4 < 0 then
          some r3
        else
          bnd (vp_updL r3 21 ((r3 21) + (r3 11))) fun (u5 : Nat → Int64) =>
          bnd (vp_updL u5 19 ((u5 19) + 1)) fun (u6 : Nat → Int64) =>
          obnd (f_X10_begins r1 r2 u6 0 (u6 7) l4) fun (u7 : Nat → Int64) =>
          some u7
    else
      obnd (f_X10_sizeOf r1 r2 0 l6 (r3 7)) fun (z8 : Int64) =>
      obnd (f_X10_up (z8 * (r3 10)) (r3 11)) fun (z9 : Int64) =>
      if l2 ≤ z9 then
        f_X10_givesUp_b81 r1 r2 n r3 l2 l4 (l6 + 1)
      else
        f_X10_givesUp_b81 r1 r2 n r3 l2 l6 (l6 + 1)
def f_X10_givesUp (r1 r2 : Nat → Int32) (r3 : Nat → Int64) : Option (Nat → Int64) :=
  if (r3 6) = 0 then
    if (r3 8) = 0 then
      some r3
    else
      if (r3 11) = 0 then
        some r3
      else
        if (((r1 11) + (r1 2)).toInt64) ≤ (r3 10) then
          obnd (f_X10_up (((r3 12) - (r3 11)) * (r3 10)) (r3 11)) fun (z5 : Int64) =>
          f_X10_givesUp_b81 r1 r2 ((((r3 8).toInt - (0 : Int64).toInt).toNat) + 1) r3 z5 (-1) 0
        else
          some r3
  else
    some r3
set_option maxHeartbeats 4000000 in
set_option maxRecDepth 100000 in
theorem k_X10_givesUp_b81 {p : Program} {l : Launch} {e : Env} {s : State} {m : MethodId} {args : Array Value} {below : List Frame} {meth : Method} {c : Code} {D : va_G} {cI cJ cC : ClassId} {h0 h1 h2 h3 kthis_ladder kthis_lengths kthis_flows kthis_now kthis_trial : Nat} {v0_phases v0_has v0_thrown : Int32} {r1 r2 : Nat → Int32} {t0 : Nat → Int64}{A : Nat → Prop} (S : CallFix p m c cX10_givesUp 8 s args TB RX10) (hr : meth.sig.returnType = none) (hlk : meth.locks = false) (hK : va_K D vwCl (ty3 cI cJ cC) s) (hA : ∀ q : Nat, s.heap.size ≤ q → A q) : ∀ (n : Nat) (r3 : Nat → Int64) (l2 l4 l6 : Int64) (H : Heap) (locs : List Loc) (ls : Array Slot), ((r3 8).toInt - l6.toInt).toNat < n → f_X10_givesUp_b81 r1 r2 n r3 l2 l4 l6 = some t0 → va_P D vwCl [(h0, .inr (10, [.ref h1, .ref h2, .ref kthis_ladder, .ref kthis_lengths, .ref kthis_flows, .int v0_phases, .ref kthis_now, .ref kthis_trial, .int v0_has, .int v0_thrown])), (h1, .inl (cI, 15, .inl r1)), (h2, .inl (cI, 12, .inl r2)), (h3, .inl (cJ, 760, .inr (.inl r3)))] H → va_D A [(h0, .inr (10, [.ref h1, .ref h2, .ref kthis_ladder, .ref kthis_lengths, .ref kthis_flows, .int v0_phases, .ref kthis_now, .ref kthis_trial, .int v0_has, .int v0_thrown])), (h1, .inl (cI, 15, .inl r1)), (h2, .inl (cI, 12, .inl r2)), (h3, .inl (cJ, 760, .inr (.inl r3)))] → va_S A s.heap H locs → lv_has ls 8 [(0, .ref h0), (1, .ref h3), (2, .long l2), (4, .long l4), (6, .long l6)] → W p l e rm_X10_givesUp s m args below meth c H locs 0 0 (MQ below (QW none D [(h0, .inr (10, [.ref h1, .ref h2, .ref kthis_ladder, .ref kthis_lengths, .ref kthis_flows, .int v0_phases, .ref kthis_now, .ref kthis_trial, .int v0_has, .int v0_thrown])), (h1, .inl (cI, 15, .inl r1)), (h2, .inl (cI, 12, .inl r2)), (h3, .inl (cJ, 760, .inr (.inl t0)))] A) args s 0 0 A) (F0 m 81 ls []) := by
  have hx := S.1
  have hb := S.2.1
  intro n
  induction n with
  | zero => intro r3 l2 l4 l6 H locs ls  hmu; exact absurd hmu (Nat.not_lt_zero _)
  | succ n ih =>
    intro r3 l2 l4 l6 H locs ls  hmu h hP hD hS hl
    refine lv_lload hx hb dX10_givesUp_81 (lv_at hl 4 rfl) ?_
    refine lv_aload_n hx hb dX10_givesUp_83 rfl (lv_at hl 1 rfl) ?_
    refine lv_bipush (v := 8) hx hb dX10_givesUp_84 lb_8 ?_
    refine aldJ (k := 8) (q0 := 3) S hK hP rfl vl_8_760 tn_8 dX10_givesUp_86 ?_
    refine lc_ge (tgt := 137) hx hb dX10_givesUp_87 dX10_givesUp_88 (by decide) (fun c1 => ?_) (fun c1 => ?_)
    · have h := iteP c1 h
      refine lv_lload_n hx hb dX10_givesUp_137 rfl (lv_at hl 2 rfl) ?_
      refine lv_aload_n hx hb dX10_givesUp_138 rfl (lv_at hl 0 rfl) ?_
      refine lv_aload_n hx hb dX10_givesUp_139 rfl (lv_at hl 1 rfl) ?_
      refine lv_iconst (v := 0) hx hb dX10_givesUp_140 li_0 ?_
      obtain ⟨z2, e_z2, h⟩ := obnd_eq h
      refine rdV (pc1 := 144) (rest := [.long l2]) (st1 := [.long z2, .long l2]) S (c_X10_bufferOf l D cI cJ cC h0 h1 h3 h2 kthis_ladder kthis_lengths kthis_flows kthis_now kthis_trial v0_phases v0_has v0_thrown r1 r3 0 z2 e_z2) (cw_X10_88 S.2.2.2.2 ⟨Nat.le_of_ble_eq_true rfl, Nat.le_of_ble_eq_true rfl⟩) hK (hP.sub [0, 1, 3] rfl) rfl rfl rfl rfl hl.1 rfl (Nat.le_of_ble_eq_true rfl) ⟨Nat.zero_le _, Nat.zero_le _⟩ rfl rfl dX10_givesUp_141 ?_
      refine lc_le (tgt := 186) hx hb dX10_givesUp_144 dX10_givesUp_145 (by decide) (fun c3 => ?_) (fun c3 => ?_)
      · have h := iteP c3 h
        have h := Option.some.inj h
        subst h
        exact wRv S hr hlk (hP.sub [0, 1, 2, 3] rfl) (hD.sub [0, 1, 2, 3] (by decide) rfl) hS dX10_givesUp_186
      · have h := iteN c3 h
        refine lv_lload hx hb dX10_givesUp_148 (lv_at hl 3 rfl) ?_
        refine lv_lconst (v := 0) hx hb dX10_givesUp_150 rfl ?_
        refine lc_lt (tgt := 186) hx hb dX10_givesUp_151 dX10_givesUp_152 (by decide) (fun c4 => ?_) (fun c4 => ?_)
        · have h := iteP c4 h
          have h := Option.some.inj h
          subst h
          exact wRv S hr hlk (hP.sub [0, 1, 2, 3] rfl) (hD.sub [0, 1, 2, 3] (by decide) rfl) hS dX10_givesUp_186
        · have h := iteN c4 h
          refine lv_aload_n hx hb dX10_givesUp_155 rfl (lv_at hl 1 rfl) ?_
          refine lv_bipush (v := 21) hx hb dX10_givesUp_156 lb_21 ?_
          refine lv_dup2_11 hx hb dX10_givesUp_158 rfl rfl ?_
          refine aldJ (k := 21) (q0 := 3) S hK hP rfl vl_21_760 tn_21 dX10_givesUp_159 ?_
          refine lv_aload_n hx hb dX10_givesUp_160 rfl (lv_at hl 1 rfl) ?_
          refine lv_bipush (v := 11) hx hb dX10_givesUp_161 lb_11 ?_
          refine aldJ (k := 11) (q0 := 3) S hK hP rfl vl_11_760 tn_11 dX10_givesUp_163 ?_
          refine lv_ladd hx hb dX10_givesUp_164 ?_
          refine astJ (k := 21) (q0 := 3) S hK hP hD hS rfl vl_21_760 tn_21 dX10_givesUp_165 (fun H locs hP hD hS => ?_)
          have hP : va_P D vwCl [(h0, .inr (10, [.ref h1, .ref h2, .ref kthis_ladder, .ref kthis_lengths, .ref kthis_flows, .int v0_phases, .ref kthis_now, .ref kthis_trial, .int v0_has, .int v0_thrown])), (h1, .inl (cI, 15, .inl r1)), (h2, .inl (cI, 12, .inl r2)), (h3, .inl (cJ, 760, .inr (.inl (vp_updL r3 21 ((r3 21) + (r3 11))))))] H := hP
          have hD : va_D A [(h0, .inr (10, [.ref h1, .ref h2, .ref kthis_ladder, .ref kthis_lengths, .ref kthis_flows, .int v0_phases, .ref kthis_now, .ref kthis_trial, .int v0_has, .int v0_thrown])), (h1, .inl (cI, 15, .inl r1)), (h2, .inl (cI, 12, .inl r2)), (h3, .inl (cJ, 760, .inr (.inl (vp_updL r3 21 ((r3 21) + (r3 11))))))] := hD
          obtain ⟨u5, e_u5⟩ : ∃ z, z = vp_updL r3 21 ((r3 21) + (r3 11)) := ⟨_, rfl⟩
          rw [← e_u5] at hP hD
          have h := bnd_eq e_u5.symm h
          refine lv_aload_n hx hb dX10_givesUp_166 rfl (lv_at hl 1 rfl) ?_
          refine lv_bipush (v := 19) hx hb dX10_givesUp_167 lb_19 ?_
          refine lv_dup2_11 hx hb dX10_givesUp_169 rfl rfl ?_
          refine aldJ (k := 19) (q0 := 3) S hK hP rfl vl_19_760 tn_19 dX10_givesUp_170 ?_
          refine lv_lconst (v := 1) hx hb dX10_givesUp_171 rfl ?_
          refine lv_ladd hx hb dX10_givesUp_172 ?_
          refine astJ (k := 19) (q0 := 3) S hK hP hD hS rfl vl_19_760 tn_19 dX10_givesUp_173 (fun H locs hP hD hS => ?_)
          have hP : va_P D vwCl [(h0, .inr (10, [.ref h1, .ref h2, .ref kthis_ladder, .ref kthis_lengths, .ref kthis_flows, .int v0_phases, .ref kthis_now, .ref kthis_trial, .int v0_has, .int v0_thrown])), (h1, .inl (cI, 15, .inl r1)), (h2, .inl (cI, 12, .inl r2)), (h3, .inl (cJ, 760, .inr (.inl (vp_updL u5 19 ((u5 19) + 1)))))] H := hP
          have hD : va_D A [(h0, .inr (10, [.ref h1, .ref h2, .ref kthis_ladder, .ref kthis_lengths, .ref kthis_flows, .int v0_phases, .ref kthis_now, .ref kthis_trial, .int v0_has, .int v0_thrown])), (h1, .inl (cI, 15, .inl r1)), (h2, .inl (cI, 12, .inl r2)), (h3, .inl (cJ, 760, .inr (.inl (vp_updL u5 19 ((u5 19) + 1)))))] := hD
          obtain ⟨u6, e_u6⟩ : ∃ z, z = vp_updL u5 19 ((u5 19) + 1) := ⟨_, rfl⟩
          rw [← e_u6] at hP hD
          have h := bnd_eq e_u6.symm h
          refine lv_aload_n hx hb dX10_givesUp_174 rfl (lv_at hl 0 rfl) ?_
          refine lv_aload_n hx hb dX10_givesUp_175 rfl (lv_at hl 1 rfl) ?_
          refine lv_iconst (v := 0) hx hb dX10_givesUp_176 li_0 ?_
          refine lv_aload_n hx hb dX10_givesUp_177 rfl (lv_at hl 1 rfl) ?_
          refine lv_bipush (v := 7) hx hb dX10_givesUp_178 lb_7 ?_
          refine aldJ (k := 7) (q0 := 3) S hK hP rfl vl_7_760 tn_7 dX10_givesUp_180 ?_
          refine lv_lload hx hb dX10_givesUp_181 (lv_at hl 3 rfl) ?_
          obtain ⟨u7, e_u7, h⟩ := obnd_eq h
          refine wrV (pc1 := 186) (rest := []) (st1 := []) (wr := []) S (c_X10_begins l D cI cJ cC h0 h1 h2 h3 kthis_ladder kthis_lengths kthis_flows kthis_now kthis_trial v0_phases v0_has v0_thrown r1 r2 u6 H.size 0 (u6 7) l4 u7 e_u7) (cw_X10_110 S.2.2.2.2 ⟨Nat.le_of_ble_eq_true rfl, Nat.le_of_ble_eq_true rfl⟩) hK hP hD hS hA [0, 1, 2, 3] [] rfl rfl rfl (by decide) (by decide) (by decide) rfl rfl rfl rfl hl.1 rfl (Nat.le_of_ble_eq_true rfl) ⟨Nat.zero_le _, Nat.zero_le _⟩ rfl rfl dX10_givesUp_183 (fun H locs hP hD hS => ?_)
          have hP : va_P D vwCl [(h0, .inr (10, [.ref h1, .ref h2, .ref kthis_ladder, .ref kthis_lengths, .ref kthis_flows, .int v0_phases, .ref kthis_now, .ref kthis_trial, .int v0_has, .int v0_thrown])), (h1, .inl (cI, 15, .inl r1)), (h2, .inl (cI, 12, .inl r2)), (h3, .inl (cJ, 760, .inr (.inl u7)))] H := hP
          have hD : va_D A [(h0, .inr (10, [.ref h1, .ref h2, .ref kthis_ladder, .ref kthis_lengths, .ref kthis_flows, .int v0_phases, .ref kthis_now, .ref kthis_trial, .int v0_has, .int v0_thrown])), (h1, .inl (cI, 15, .inl r1)), (h2, .inl (cI, 12, .inl r2)), (h3, .inl (cJ, 760, .inr (.inl u7)))] := hD
          have h := Option.some.inj h
          subst h
          exact wRv S hr hlk (hP.sub [0, 1, 2, 3] rfl) (hD.sub [0, 1, 2, 3] (by decide) rfl) hS dX10_givesUp_186
    · have h := iteN c1 h
      refine lv_aload_n hx hb dX10_givesUp_91 rfl (lv_at hl 0 rfl) ?_
      refine lv_iconst (v := 0) hx hb dX10_givesUp_92 li_0 ?_
      refine lv_lload hx hb dX10_givesUp_93 (lv_at hl 4 rfl) ?_
      refine lv_aload_n hx hb dX10_givesUp_95 rfl (lv_at hl 1 rfl) ?_
      refine lv_bipush (v := 7) hx hb dX10_givesUp_96 lb_7 ?_
      refine aldJ (k := 7) (q0 := 3) S hK hP rfl vl_7_760 tn_7 dX10_givesUp_98 ?_
      obtain ⟨z8, e_z8, h⟩ := obnd_eq h
      refine rdV (pc1 := 102) (rest := []) (st1 := [.long z8]) S (c_X10_sizeOf l D cI cJ cC h0 h1 h2 kthis_ladder kthis_lengths kthis_flows kthis_now kthis_trial v0_phases v0_has v0_thrown r1 r2 0 l6 (r3 7) z8 e_z8) (cw_X10_84 S.2.2.2.2 ⟨Nat.le_of_ble_eq_true rfl, Nat.le_of_ble_eq_true rfl⟩) hK (hP.sub [0, 1, 2] rfl) rfl rfl rfl rfl hl.1 rfl (Nat.le_of_ble_eq_true rfl) ⟨Nat.zero_le _, Nat.zero_le _⟩ rfl rfl dX10_givesUp_99 ?_
      refine lv_aload_n hx hb dX10_givesUp_102 rfl (lv_at hl 1 rfl) ?_
      refine lv_bipush (v := 10) hx hb dX10_givesUp_103 lb_10 ?_
      refine aldJ (k := 10) (q0 := 3) S hK hP rfl vl_10_760 tn_10 dX10_givesUp_105 ?_
      refine lv_lmul hx hb dX10_givesUp_106 ?_
      refine lv_aload_n hx hb dX10_givesUp_107 rfl (lv_at hl 1 rfl) ?_
      refine lv_bipush (v := 11) hx hb dX10_givesUp_108 lb_11 ?_
      refine aldJ (k := 11) (q0 := 3) S hK hP rfl vl_11_760 tn_11 dX10_givesUp_110 ?_
      obtain ⟨z9, e_z9, h⟩ := obnd_eq h
      refine rdS (pc1 := 114) (rest := []) (st1 := [.long z9]) S (c_X10_up l D cI cJ cC  (z8 * (r3 10)) (r3 11) z9 e_z9) (cw_X10_118 S.2.2.2.2 ⟨Nat.le_of_ble_eq_true rfl, Nat.le_of_ble_eq_true rfl⟩) hK (hP.sub [] rfl) rfl hl.1 rfl (Nat.le_of_ble_eq_true rfl) ⟨Nat.zero_le _, Nat.zero_le _⟩ rfl rfl dX10_givesUp_111 ?_
      refine lv_lload_n hx hb dX10_givesUp_114 rfl (lv_at hl 2 rfl) ?_
      refine lc_ge (tgt := 124) hx hb dX10_givesUp_115 dX10_givesUp_116 (by decide) (fun c10 => ?_) (fun c10 => ?_)
      · have h := iteP c10 h
        refine lv_lload hx hb dX10_givesUp_124 (lv_at hl 3 rfl) ?_
        refine lv_lstore (lv' := [(4, .long l4), (0, .ref h0), (1, .ref h3), (2, .long l2), (6, .long l6)]) hx hb dX10_givesUp_126 hl (by decide) rfl (fun ls hl => ?_)
        refine lv_lload hx hb dX10_givesUp_128 (lv_at hl 4 rfl) ?_
        refine lv_lconst (v := 1) hx hb dX10_givesUp_130 rfl ?_
        refine lv_ladd hx hb dX10_givesUp_131 ?_
        refine lv_lstore (lv' := [(6, .long (l6 + 1)), (4, .long l4), (0, .ref h0), (1, .ref h3), (2, .long l2)]) hx hb dX10_givesUp_132 hl (by decide) rfl (fun ls hl => ?_)
        refine lv_goto (tgt := 81) hx hb dX10_givesUp_134 (by decide) ?_
        exact ih r3 l2 l4 (l6 + 1) _ _ _ (by first | exact mu_lA (by assumption) hmu | exact mu_lB (by assumption) hmu) h (hP.sub [0, 1, 2, 3] rfl) (hD.sub [0, 1, 2, 3] (by decide) rfl) hS (lv_sub hl [2, 3, 4, 1, 0] rfl)
      · have h := iteN c10 h
        refine lv_lload hx hb dX10_givesUp_119 (lv_at hl 4 rfl) ?_
        refine lv_goto (tgt := 126) hx hb dX10_givesUp_121 (by decide) ?_
        refine lv_lstore (lv' := [(4, .long l6), (0, .ref h0), (1, .ref h3), (2, .long l2), (6, .long l6)]) hx hb dX10_givesUp_126 hl (by decide) rfl (fun ls hl => ?_)
        refine lv_lload hx hb dX10_givesUp_128 (lv_at hl 4 rfl) ?_
        refine lv_lconst (v := 1) hx hb dX10_givesUp_130 rfl ?_
        refine lv_ladd hx hb dX10_givesUp_131 ?_
        refine lv_lstore (lv' := [(6, .long (l6 + 1)), (4, .long l6), (0, .ref h0), (1, .ref h3), (2, .long l2)]) hx hb dX10_givesUp_132 hl (by decide) rfl (fun ls hl => ?_)
        refine lv_goto (tgt := 81) hx hb dX10_givesUp_134 (by decide) ?_
        exact ih r3 l2 l6 (l6 + 1) _ _ _ (by first | exact mu_lA (by assumption) hmu | exact mu_lB (by assumption) hmu) h (hP.sub [0, 1, 2, 3] rfl) (hD.sub [0, 1, 2, 3] (by decide) rfl) hS (lv_sub hl [2, 3, 4, 1, 0] rfl)
set_option maxHeartbeats 4000000 in
set_option maxRecDepth 100000 in
theorem c_X10_givesUp (l : Launch) (D : va_G) (cI cJ cC : ClassId) (h0 h1 h2 h3 kthis_ladder kthis_lengths kthis_flows kthis_now kthis_trial : Nat) (v0_phases v0_has v0_thrown : Int32) (r1 r2 : Nat → Int32) (r3 : Nat → Int64) (sz : Nat)  (t0 : Nat → Int64) (h : f_X10_givesUp r1 r2 r3 = some t0) : Met l yX10_givesUp (Cond.code yX10_givesUp cX10_givesUp 8 none :: TB) rm_X10_givesUp (PreW D cI cJ cC [(h0, .inr (10, [.ref h1, .ref h2, .ref kthis_ladder, .ref kthis_lengths, .ref kthis_flows, .int v0_phases, .ref kthis_now, .ref kthis_trial, .int v0_has, .int v0_thrown])), (h1, .inl (cI, 15, .inl r1)), (h2, .inl (cI, 12, .inl r2)), (h3, .inl (cJ, 760, .inr (.inl r3)))] sz [.ref h0, .ref h3]) (QW none D [(h0, .inr (10, [.ref h1, .ref h2, .ref kthis_ladder, .ref kthis_lengths, .ref kthis_flows, .int v0_phases, .ref kthis_now, .ref kthis_trial, .int v0_has, .int v0_thrown])), (h1, .inl (cI, 15, .inl r1)), (h2, .inl (cI, 12, .inl r2)), (h3, .inl (cJ, 760, .inr (.inl t0)))] (va_A [(h0, .inr (10, [.ref h1, .ref h2, .ref kthis_ladder, .ref kthis_lengths, .ref kthis_flows, .int v0_phases, .ref kthis_now, .ref kthis_trial, .int v0_has, .int v0_thrown])), (h1, .inl (cI, 15, .inl r1)), (h2, .inl (cI, 12, .inl r2)), (h3, .inl (cJ, 760, .inr (.inl r3)))] sz)) 0 0 (va_A [(h0, .inr (10, [.ref h1, .ref h2, .ref kthis_ladder, .ref kthis_lengths, .ref kthis_flows, .int v0_phases, .ref kthis_now, .ref kthis_trial, .int v0_has, .int v0_thrown])), (h1, .inl (cI, 15, .inl r1)), (h2, .inl (cI, 12, .inl r2)), (h3, .inl (cJ, 760, .inr (.inl r3)))] sz) := by
  refine metW (own := RX10) (by decide) rfl (Nat.le_of_ble_eq_true rfl) ?_
  intro p e s m below meth c S hr hlk hP hK A hAe hD hA hS ls hl
  clear hAe
  have hx := S.1
  have hb := S.2.1
  have hl : lv_has ls 8 [(0, .ref h0), (1, .ref h3)] := hl
  refine lv_aload_n hx hb dX10_givesUp_0 rfl (lv_at hl 1 rfl) ?_
  refine lv_bipush (v := 6) hx hb dX10_givesUp_1 lb_6 ?_
  refine aldJ (k := 6) (q0 := 3) S hK hP rfl vl_6_760 tn_6 dX10_givesUp_3 ?_
  refine lv_lconst (v := 0) hx hb dX10_givesUp_4 rfl ?_
  refine lc_ne (tgt := 50) hx hb dX10_givesUp_5 dX10_givesUp_6 (by decide) (fun c1 => ?_) (fun c1 => ?_)
  · have h := iteN c1 h
    have h := Option.some.inj h
    subst h
    exact wRv S hr hlk (hP.sub [0, 1, 2, 3] rfl) (hD.sub [0, 1, 2, 3] (by decide) rfl) hS dX10_givesUp_50
  · have h := iteP c1 h
    refine lv_aload_n hx hb dX10_givesUp_9 rfl (lv_at hl 1 rfl) ?_
    refine lv_bipush (v := 8) hx hb dX10_givesUp_10 lb_8 ?_
    refine aldJ (k := 8) (q0 := 3) S hK hP rfl vl_8_760 tn_8 dX10_givesUp_12 ?_
    refine lv_lconst (v := 0) hx hb dX10_givesUp_13 rfl ?_
    refine lc_eq (tgt := 50) hx hb dX10_givesUp_14 dX10_givesUp_15 (by decide) (fun c2 => ?_) (fun c2 => ?_)
    · have h := iteP c2 h
      have h := Option.some.inj h
      subst h
      exact wRv S hr hlk (hP.sub [0, 1, 2, 3] rfl) (hD.sub [0, 1, 2, 3] (by decide) rfl) hS dX10_givesUp_50
    · have h := iteN c2 h
      refine lv_aload_n hx hb dX10_givesUp_18 rfl (lv_at hl 1 rfl) ?_
      refine lv_bipush (v := 11) hx hb dX10_givesUp_19 lb_11 ?_
      refine aldJ (k := 11) (q0 := 3) S hK hP rfl vl_11_760 tn_11 dX10_givesUp_21 ?_
      refine lv_lconst (v := 0) hx hb dX10_givesUp_22 rfl ?_
      refine lc_eq (tgt := 50) hx hb dX10_givesUp_23 dX10_givesUp_24 (by decide) (fun c3 => ?_) (fun c3 => ?_)
      · have h := iteP c3 h
        have h := Option.some.inj h
        subst h
        exact wRv S hr hlk (hP.sub [0, 1, 2, 3] rfl) (hD.sub [0, 1, 2, 3] (by decide) rfl) hS dX10_givesUp_50
      · have h := iteN c3 h
        refine lv_aload_n hx hb dX10_givesUp_27 rfl (lv_at hl 1 rfl) ?_
        refine lv_bipush (v := 10) hx hb dX10_givesUp_28 lb_10 ?_
        refine aldJ (k := 10) (q0 := 3) S hK hP rfl vl_10_760 tn_10 dX10_givesUp_30 ?_
        refine lv_aload_n hx hb dX10_givesUp_31 rfl (lv_at hl 0 rfl) ?_
        refine gf_X10_7 (v := .ref h1) S hK hP 0 rfl rfl dX10_givesUp_32 ?_
        refine lv_bipush (v := 11) hx hb dX10_givesUp_35 lb_11 ?_
        refine aldI (k := 11) (q0 := 1) S hK hP rfl vl_11_15 tn_11 dX10_givesUp_37 ?_
        refine lv_aload_n hx hb dX10_givesUp_38 rfl (lv_at hl 0 rfl) ?_
        refine gf_X10_7 (v := .ref h1) S hK hP 0 rfl rfl dX10_givesUp_39 ?_
        refine lv_iconst (v := 2) hx hb dX10_givesUp_42 li_2 ?_
        refine aldI (k := 2) (q0 := 1) S hK hP rfl vl_2_15 tn_2 dX10_givesUp_43 ?_
        refine lv_iadd hx hb dX10_givesUp_44 ?_
        refine lv_i2l hx hb dX10_givesUp_45 rfl ?_
        refine lc_ge (tgt := 51) hx hb dX10_givesUp_46 dX10_givesUp_47 (by decide) (fun c4 => ?_) (fun c4 => ?_)
        · have h := iteP c4 h
          refine lv_aload_n hx hb dX10_givesUp_51 rfl (lv_at hl 1 rfl) ?_
          refine lv_bipush (v := 12) hx hb dX10_givesUp_52 lb_12 ?_
          refine aldJ (k := 12) (q0 := 3) S hK hP rfl vl_12_760 tn_12 dX10_givesUp_54 ?_
          refine lv_aload_n hx hb dX10_givesUp_55 rfl (lv_at hl 1 rfl) ?_
          refine lv_bipush (v := 11) hx hb dX10_givesUp_56 lb_11 ?_
          refine aldJ (k := 11) (q0 := 3) S hK hP rfl vl_11_760 tn_11 dX10_givesUp_58 ?_
          refine lv_lsub hx hb dX10_givesUp_59 ?_
          refine lv_aload_n hx hb dX10_givesUp_60 rfl (lv_at hl 1 rfl) ?_
          refine lv_bipush (v := 10) hx hb dX10_givesUp_61 lb_10 ?_
          refine aldJ (k := 10) (q0 := 3) S hK hP rfl vl_10_760 tn_10 dX10_givesUp_63 ?_
          refine lv_lmul hx hb dX10_givesUp_64 ?_
          refine lv_aload_n hx hb dX10_givesUp_65 rfl (lv_at hl 1 rfl) ?_
          refine lv_bipush (v := 11) hx hb dX10_givesUp_66 lb_11 ?_
          refine aldJ (k := 11) (q0 := 3) S hK hP rfl vl_11_760 tn_11 dX10_givesUp_68 ?_
          obtain ⟨z5, e_z5, h⟩ := obnd_eq h
          refine rdS (pc1 := 72) (rest := []) (st1 := [.long z5]) S (c_X10_up l D cI cJ cC  (((r3 12) - (r3 11)) * (r3 10)) (r3 11) z5 e_z5) (cw_X10_118 S.2.2.2.2 ⟨Nat.le_of_ble_eq_true rfl, Nat.le_of_ble_eq_true rfl⟩) hK (hP.sub [] rfl) rfl hl.1 rfl (Nat.le_of_ble_eq_true rfl) ⟨Nat.zero_le _, Nat.zero_le _⟩ rfl rfl dX10_givesUp_69 ?_
          refine lv_lstore_n (lv' := [(2, .long z5), (0, .ref h0), (1, .ref h3)]) hx hb dX10_givesUp_72 rfl hl (by decide) rfl (fun ls hl => ?_)
          refine lv_ldc2 (v := (-1)) hx hb S.2.2.2.1 (S.2.2.2.2 _ tb1060) dX10_givesUp_73 ?_
          refine lv_lstore (lv' := [(4, .long (-1)), (2, .long z5), (0, .ref h0), (1, .ref h3)]) hx hb dX10_givesUp_76 hl (by decide) rfl (fun ls hl => ?_)
          refine lv_lconst (v := 0) hx hb dX10_givesUp_78 rfl ?_
          refine lv_lstore (lv' := [(6, .long 0), (4, .long (-1)), (2, .long z5), (0, .ref h0), (1, .ref h3)]) hx hb dX10_givesUp_79 hl (by decide) rfl (fun ls hl => ?_)
          exact k_X10_givesUp_b81 S hr hlk hK hA _ r3 z5 (-1) 0 _ _ _ (Nat.lt_succ_self _) h (hP.sub [0, 1, 2, 3] rfl) (hD.sub [0, 1, 2, 3] (by decide) rfl) hS (lv_sub hl [3, 4, 2, 1, 0] rfl)
        · have h := iteN c4 h
          have h := Option.some.inj h
          subst h
          exact wRv S hr hlk (hP.sub [0, 1, 2, 3] rfl) (hD.sub [0, 1, 2, 3] (by decide) rfl) hS dX10_givesUp_50
abbrev rm_X10_hasAll : Room := { frames := 0, cells := 0, slots := 0, locals := 0 }
theorem dX10_hasAll_0 : decode cX10_hasAll 0 = .ok (.aload_n 1, 1) := by decide +kernel
theorem dX10_hasAll_1 : decode cX10_hasAll 1 = .ok (.iconst 3, 1) := by decide +kernel
theorem dX10_hasAll_2 : decode cX10_hasAll 2 = .ok (.laload, 1) := by decide +kernel
theorem dX10_hasAll_3 : decode cX10_hasAll 3 = .ok (.aload_n 0, 1) := by decide +kernel
theorem dX10_hasAll_4 : decode cX10_hasAll 4 = .ok (.getfield 7, 3) := by decide +kernel
theorem dX10_hasAll_7 : decode cX10_hasAll 7 = .ok (.iconst 1, 1) := by decide +kernel
theorem dX10_hasAll_8 : decode cX10_hasAll 8 = .ok (.iaload, 1) := by decide +kernel
theorem dX10_hasAll_9 : decode cX10_hasAll 9 = .ok (.i2l, 1) := by decide +kernel
theorem dX10_hasAll_10 : decode cX10_hasAll 10 = .ok (.lcmp, 1) := by decide +kernel
theorem dX10_hasAll_11 : decode cX10_hasAll 11 = .ok (.ifCond .ne 30, 3) := by decide +kernel
theorem dX10_hasAll_14 : decode cX10_hasAll 14 = .ok (.aload_n 0, 1) := by decide +kernel
theorem dX10_hasAll_15 : decode cX10_hasAll 15 = .ok (.getfield 16, 3) := by decide +kernel
theorem dX10_hasAll_18 : decode cX10_hasAll 18 = .ok (.iconst 1, 1) := by decide +kernel
theorem dX10_hasAll_19 : decode cX10_hasAll 19 = .ok (.iaload, 1) := by decide +kernel
theorem dX10_hasAll_20 : decode cX10_hasAll 20 = .ok (.ifCond .eq 17, 3) := by decide +kernel
theorem dX10_hasAll_23 : decode cX10_hasAll 23 = .ok (.aload_n 1, 1) := by decide +kernel
theorem dX10_hasAll_24 : decode cX10_hasAll 24 = .ok (.iconst 4, 1) := by decide +kernel
theorem dX10_hasAll_25 : decode cX10_hasAll 25 = .ok (.laload, 1) := by decide +kernel
theorem dX10_hasAll_26 : decode cX10_hasAll 26 = .ok (.aload_n 0, 1) := by decide +kernel
theorem dX10_hasAll_27 : decode cX10_hasAll 27 = .ok (.getfield 7, 3) := by decide +kernel
theorem dX10_hasAll_30 : decode cX10_hasAll 30 = .ok (.iconst 1, 1) := by decide +kernel
theorem dX10_hasAll_31 : decode cX10_hasAll 31 = .ok (.iaload, 1) := by decide +kernel
theorem dX10_hasAll_32 : decode cX10_hasAll 32 = .ok (.i2l, 1) := by decide +kernel
theorem dX10_hasAll_33 : decode cX10_hasAll 33 = .ok (.lcmp, 1) := by decide +kernel
theorem dX10_hasAll_34 : decode cX10_hasAll 34 = .ok (.ifCond .ne 7, 3) := by decide +kernel
theorem dX10_hasAll_37 : decode cX10_hasAll 37 = .ok (.iconst 1, 1) := by decide +kernel
theorem dX10_hasAll_38 : decode cX10_hasAll 38 = .ok (.goto 4, 3) := by decide +kernel
theorem dX10_hasAll_41 : decode cX10_hasAll 41 = .ok (.iconst 0, 1) := by decide +kernel
theorem dX10_hasAll_42 : decode cX10_hasAll 42 = .ok (.ireturn, 1) := by decide +kernel
def f_X10_hasAll (r1 r2 : Nat → Int32) (r3 : Nat → Int64) : Int32 :=
  if (r3 3) = ((r2 1).toInt64) then
    if (r1 1) = 0 then
      1
    else
      if (r3 4) = ((r2 1).toInt64) then
        1
      else
        0
  else
    0
set_option maxHeartbeats 4000000 in
set_option maxRecDepth 100000 in
theorem c_X10_hasAll (l : Launch) (D : va_G) (cI cJ cC : ClassId) (h0 h1 h2 h3 kthis_rates kthis_lengths kthis_flows kthis_now kthis_trial : Nat) (v0_phases v0_has v0_thrown : Int32) (r1 r2 : Nat → Int32) (r3 : Nat → Int64)  (t0 : Int32) (h : f_X10_hasAll r1 r2 r3 = t0) : Met l yX10_hasAll (Cond.code yX10_hasAll cX10_hasAll 2 (some .boolean) :: TB) rm_X10_hasAll (PreR D cI cJ cC [(h0, .inr (10, [.ref h2, .ref kthis_rates, .ref h1, .ref kthis_lengths, .ref kthis_flows, .int v0_phases, .ref kthis_now, .ref kthis_trial, .int v0_has, .int v0_thrown])), (h1, .inl (cI, 2, .inl r1)), (h2, .inl (cI, 15, .inl r2)), (h3, .inl (cJ, 760, .inr (.inl r3)))] [.ref h0, .ref h3]) (QR (some (.int t0))) 0 0 free0 := by
  refine metR (own := RX10) (by decide) rfl (Nat.le_of_ble_eq_true rfl) ?_
  intro p e s m below meth c S hr hlk hP hK ls hl
  have hx := S.1
  have hb := S.2.1
  have hl : lv_has ls 2 [(0, .ref h0), (1, .ref h3)] := hl
  refine lv_aload_n hx hb dX10_hasAll_0 rfl (lv_at hl 1 rfl) ?_
  refine lv_iconst (v := 3) hx hb dX10_hasAll_1 li_3 ?_
  refine aldJ (k := 3) (q0 := 3) S hK hP rfl vl_3_760 tn_3 dX10_hasAll_2 ?_
  refine lv_aload_n hx hb dX10_hasAll_3 rfl (lv_at hl 0 rfl) ?_
  refine gf_X10_7 (v := .ref h2) S hK hP 0 rfl rfl dX10_hasAll_4 ?_
  refine lv_iconst (v := 1) hx hb dX10_hasAll_7 li_1 ?_
  refine aldI (k := 1) (q0 := 2) S hK hP rfl vl_1_15 tn_1 dX10_hasAll_8 ?_
  refine lv_i2l hx hb dX10_hasAll_9 rfl ?_
  refine lc_ne (tgt := 41) hx hb dX10_hasAll_10 dX10_hasAll_11 (by decide) (fun c1 => ?_) (fun c1 => ?_)
  · have h := iteN c1 h
    refine lv_iconst (v := 0) hx hb dX10_hasAll_41 li_0 ?_
    subst h
    exact rRz S hr hlk (by decide) dX10_hasAll_42
  · have h := iteP c1 h
    refine lv_aload_n hx hb dX10_hasAll_14 rfl (lv_at hl 0 rfl) ?_
    refine gf_X10_16 (v := .ref h1) S hK hP 0 rfl rfl dX10_hasAll_15 ?_
    refine lv_iconst (v := 1) hx hb dX10_hasAll_18 li_1 ?_
    refine aldI (k := 1) (q0 := 1) S hK hP rfl vl_1_2 tn_1 dX10_hasAll_19 ?_
    refine lv_if_eq (tgt := 37) hx hb dX10_hasAll_20 (by decide) (fun c2 => ?_) (fun c2 => ?_)
    · have h := iteP c2 h
      refine lv_iconst (v := 1) hx hb dX10_hasAll_37 li_1 ?_
      refine lv_goto (tgt := 42) hx hb dX10_hasAll_38 (by decide) ?_
      subst h
      exact rRz S hr hlk (by decide) dX10_hasAll_42
    · have h := iteN c2 h
      refine lv_aload_n hx hb dX10_hasAll_23 rfl (lv_at hl 1 rfl) ?_
      refine lv_iconst (v := 4) hx hb dX10_hasAll_24 li_4 ?_
      refine aldJ (k := 4) (q0 := 3) S hK hP rfl vl_4_760 tn_4 dX10_hasAll_25 ?_
      refine lv_aload_n hx hb dX10_hasAll_26 rfl (lv_at hl 0 rfl) ?_
      refine gf_X10_7 (v := .ref h2) S hK hP 0 rfl rfl dX10_hasAll_27 ?_
      refine lv_iconst (v := 1) hx hb dX10_hasAll_30 li_1 ?_
      refine aldI (k := 1) (q0 := 2) S hK hP rfl vl_1_15 tn_1 dX10_hasAll_31 ?_
      refine lv_i2l hx hb dX10_hasAll_32 rfl ?_
      refine lc_ne (tgt := 41) hx hb dX10_hasAll_33 dX10_hasAll_34 (by decide) (fun c3 => ?_) (fun c3 => ?_)
      · have h := iteN c3 h
        refine lv_iconst (v := 0) hx hb dX10_hasAll_41 li_0 ?_
        subst h
        exact rRz S hr hlk (by decide) dX10_hasAll_42
      · have h := iteP c3 h
        refine lv_iconst (v := 1) hx hb dX10_hasAll_37 li_1 ?_
        refine lv_goto (tgt := 42) hx hb dX10_hasAll_38 (by decide) ?_
        subst h
        exact rRz S hr hlk (by decide) dX10_hasAll_42
