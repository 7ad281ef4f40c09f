abbrev rm_X6_receive : Room := { frames := 2, cells := 0, slots := 0, locals := 54 }
theorem dX6_receive_0 : decode cX6_receive 0 = .ok (.aload_n 0, 1) := by decide +kernel
theorem dX6_receive_1 : decode cX6_receive 1 = .ok (.getfield 31, 3) := by decide +kernel
theorem dX6_receive_4 : decode cX6_receive 4 = .ok (.aload_n 0, 1) := by decide +kernel
theorem dX6_receive_5 : decode cX6_receive 5 = .ok (.getfield 53, 3) := by decide +kernel
theorem dX6_receive_8 : decode cX6_receive 8 = .ok (.getfield 212, 3) := by decide +kernel
theorem dX6_receive_11 : decode cX6_receive 11 = .ok (.aload_n 0, 1) := by decide +kernel
theorem dX6_receive_12 : decode cX6_receive 12 = .ok (.getfield 79, 3) := by decide +kernel
theorem dX6_receive_15 : decode cX6_receive 15 = .ok (.invokevirtual 216, 3) := by decide +kernel
theorem dX6_receive_18 : decode cX6_receive 18 = .ok (.invokevirtual 221, 3) := by decide +kernel
theorem dX6_receive_21 : decode cX6_receive 21 = .ok (.aload_n 0, 1) := by decide +kernel
theorem dX6_receive_22 : decode cX6_receive 22 = .ok (.getfield 31, 3) := by decide +kernel
theorem dX6_receive_25 : decode cX6_receive 25 = .ok (.invokevirtual 224, 3) := by decide +kernel
theorem dX6_receive_28 : decode cX6_receive 28 = .ok (.ifCond .ne 4, 3) := by decide +kernel
theorem dX6_receive_31 : decode cX6_receive 31 = .ok (.return_, 1) := by decide +kernel
theorem dX6_receive_32 : decode cX6_receive 32 = .ok (.aload_n 0, 1) := by decide +kernel
theorem dX6_receive_33 : decode cX6_receive 33 = .ok (.getfield 31, 3) := by decide +kernel
theorem dX6_receive_36 : decode cX6_receive 36 = .ok (.iconst 0, 1) := by decide +kernel
theorem dX6_receive_37 : decode cX6_receive 37 = .ok (.putfield 69, 3) := by decide +kernel
theorem dX6_receive_40 : decode cX6_receive 40 = .ok (.aload_n 0, 1) := by decide +kernel
theorem dX6_receive_41 : decode cX6_receive 41 = .ok (.getfield 24, 3) := by decide +kernel
theorem dX6_receive_44 : decode cX6_receive 44 = .ok (.aload_n 0, 1) := by decide +kernel
theorem dX6_receive_45 : decode cX6_receive 45 = .ok (.getfield 31, 3) := by decide +kernel
theorem dX6_receive_48 : decode cX6_receive 48 = .ok (.getfield 205, 3) := by decide +kernel
theorem dX6_receive_51 : decode cX6_receive 51 = .ok (.aload_n 0, 1) := by decide +kernel
theorem dX6_receive_52 : decode cX6_receive 52 = .ok (.getfield 31, 3) := by decide +kernel
theorem dX6_receive_55 : decode cX6_receive 55 = .ok (.getfield 198, 3) := by decide +kernel
theorem dX6_receive_58 : decode cX6_receive 58 = .ok (.i2l, 1) := by decide +kernel
theorem dX6_receive_59 : decode cX6_receive 59 = .ok (.invokevirtual 227, 3) := by decide +kernel
theorem dX6_receive_62 : decode cX6_receive 62 = .ok (.aload_n 0, 1) := by decide +kernel
theorem dX6_receive_63 : decode cX6_receive 63 = .ok (.getfield 38, 3) := by decide +kernel
theorem dX6_receive_66 : decode cX6_receive 66 = .ok (.dup, 1) := by decide +kernel
theorem dX6_receive_67 : decode cX6_receive 67 = .ok (.getfield 230, 3) := by decide +kernel
theorem dX6_receive_70 : decode cX6_receive 70 = .ok (.iconst 1, 1) := by decide +kernel
theorem dX6_receive_71 : decode cX6_receive 71 = .ok (.iadd, 1) := by decide +kernel
theorem dX6_receive_72 : decode cX6_receive 72 = .ok (.putfield 230, 3) := by decide +kernel
theorem dX6_receive_75 : decode cX6_receive 75 = .ok (.aload_n 0, 1) := by decide +kernel
theorem dX6_receive_76 : decode cX6_receive 76 = .ok (.aload_n 0, 1) := by decide +kernel
theorem dX6_receive_77 : decode cX6_receive 77 = .ok (.getfield 31, 3) := by decide +kernel
theorem dX6_receive_80 : decode cX6_receive 80 = .ok (.getfield 186, 3) := by decide +kernel
theorem dX6_receive_83 : decode cX6_receive 83 = .ok (.invokevirtual 163, 3) := by decide +kernel
theorem dX6_receive_86 : decode cX6_receive 86 = .ok (.aload_n 0, 1) := by decide +kernel
theorem dX6_receive_87 : decode cX6_receive 87 = .ok (.getfield 31, 3) := by decide +kernel
theorem dX6_receive_90 : decode cX6_receive 90 = .ok (.getfield 192, 3) := by decide +kernel
theorem dX6_receive_93 : decode cX6_receive 93 = .ok (.invokevirtual 233, 3) := by decide +kernel
theorem dX6_receive_96 : decode cX6_receive 96 = .ok (.aload_n 0, 1) := by decide +kernel
theorem dX6_receive_97 : decode cX6_receive 97 = .ok (.getfield 31, 3) := by decide +kernel
theorem dX6_receive_100 : decode cX6_receive 100 = .ok (.getfield 186, 3) := by decide +kernel
theorem dX6_receive_103 : decode cX6_receive 103 = .ok (.ifCond .ne 26, 3) := by decide +kernel
theorem dX6_receive_106 : decode cX6_receive 106 = .ok (.aload_n 0, 1) := by decide +kernel
theorem dX6_receive_107 : decode cX6_receive 107 = .ok (.getfield 12, 3) := by decide +kernel
theorem dX6_receive_110 : decode cX6_receive 110 = .ok (.invokevirtual 235, 3) := by decide +kernel
theorem dX6_receive_113 : decode cX6_receive 113 = .ok (.ifCond .eq 16, 3) := by decide +kernel
theorem dX6_receive_116 : decode cX6_receive 116 = .ok (.aload_n 0, 1) := by decide +kernel
theorem dX6_receive_117 : decode cX6_receive 117 = .ok (.getfield 38, 3) := by decide +kernel
theorem dX6_receive_120 : decode cX6_receive 120 = .ok (.dup, 1) := by decide +kernel
theorem dX6_receive_121 : decode cX6_receive 121 = .ok (.getfield 238, 3) := by decide +kernel
theorem dX6_receive_124 : decode cX6_receive 124 = .ok (.iconst 1, 1) := by decide +kernel
theorem dX6_receive_125 : decode cX6_receive 125 = .ok (.iadd, 1) := by decide +kernel
theorem dX6_receive_126 : decode cX6_receive 126 = .ok (.putfield 238, 3) := by decide +kernel
theorem dX6_receive_129 : decode cX6_receive 129 = .ok (.return_, 1) := by decide +kernel
theorem gf_X6_212 {p : Program} {l : Launch} {e : Env} {R : Room} {s : State} {m : MethodId} {args : Array Value} {below : List Frame} {meth : Method} {c : Code} {H : Heap} {locs : List Loc} {cells slots : Nat} {Q : State → Prop} {cc : ByteArray} {pc nL : Nat} {ls : Array Slot} {rest : List Value} {D : va_G} {ws : va_W} {tys : List (ClassId × FieldType)} (S : CallFix p m c cc nL s args TB RX6) (hK : va_K D vwCl tys s) (hP : va_P D vwCl ws H) (q0 : Nat) {a : Nat} {fs : List Value} (he : ws[q0]? = some (a, .inr (8, fs))) {v : Value} (hv : fs[3]? = some v) (hdg : decode cc pc = .ok (.getfield 212, 3))
    (kk : W p l e R s m args below meth c H locs cells slots Q (F0 m (pc + 3) ls (v :: rest))) : W p l e R s m args below meth c H locs cells slots Q (F0 m pc ls (.ref a :: rest)) :=
  va_get (D := D) (ci := 8) (C := RX8) (T := TX8) (N := 4) S.1 S.2.1 S.2.2.2.2 iwX8 S.2.2.2.1 hK hP q0 he rfl 3 (by decide) (S.2.2.2.2 _ tb105) (fun _ h9 => h9) hv hdg kk
theorem cw_X6_216 {R : Room} {s : State} {args : Array Value} (hts : ∀ w ∈ TB, w.before args s = true) (hR : rm_X4_rateAt.frames + 1 ≤ R.frames ∧ 8 + (4 + 11) + rm_X4_rateAt.locals ≤ R.locals) : CallW R s args RX6 RX4 216 yX4_rateAt cX4_rateAt 4 (some .int) (Cond.code yX4_rateAt cX4_rateAt 4 (some .int) :: TB) rm_X4_rateAt 0 0 1 := cwV 1 hts (gV tb573 tb574 tb575 tb24 tb576) rfl rfl rfl ⟨rfl, by decide, by decide, by decide +kernel⟩ hR
theorem cw_X6_221 {R : Room} {s : State} {args : Array Value} (hts : ∀ w ∈ TB, w.before args s = true) (hR : rm_X1_receiveAt.frames + 1 ≤ R.frames ∧ 8 + (2 + 11) + rm_X1_receiveAt.locals ≤ R.locals) : CallW R s args RX6 RX1 221 yX1_receiveAt cX1_receiveAt 2 none (Cond.code yX1_receiveAt cX1_receiveAt 2 none :: TB) rm_X1_receiveAt 0 0 1 := cwV 1 hts (gV tb577 tb578 tb579 tb28 tb580) rfl rfl rfl ⟨rfl, by decide, by decide, by decide +kernel⟩ hR
theorem cw_X6_224 {R : Room} {s : State} {args : Array Value} (hts : ∀ w ∈ TB, w.before args s = true) (hR : rm_X1_isWhole.frames + 1 ≤ R.frames ∧ 8 + (1 + 11) + rm_X1_isWhole.locals ≤ R.locals) : CallW R s args RX6 RX1 224 yX1_isWhole cX1_isWhole 1 (some .boolean) (Cond.code yX1_isWhole cX1_isWhole 1 (some .boolean) :: TB) rm_X1_isWhole 0 0 0 := cwV 0 hts (gV tb584 tb585 tb586 tb28 tb587) rfl rfl rfl ⟨rfl, by decide, by decide, by decide +kernel⟩ hR
theorem gf_X6_205 {p : Program} {l : Launch} {e : Env} {R : Room} {s : State} {m : MethodId} {args : Array Value} {below : List Frame} {meth : Method} {c : Code} {H : Heap} {locs : List Loc} {cells slots : Nat} {Q : State → Prop} {cc : ByteArray} {pc nL : Nat} {ls : Array Slot} {rest : List Value} {D : va_G} {ws : va_W} {tys : List (ClassId × FieldType)} (S : CallFix p m c cc nL s args TB RX6) (hK : va_K D vwCl tys s) (hP : va_P D vwCl ws H) (q0 : Nat) {a : Nat} {fs : List Value} (he : ws[q0]? = some (a, .inr (1, fs))) {v : Value} (hv : fs[6]? = some v) (hdg : decode cc pc = .ok (.getfield 205, 3))
    (kk : W p l e R s m args below meth c H locs cells slots Q (F0 m (pc + 3) ls (v :: rest))) : W p l e R s m args below meth c H locs cells slots Q (F0 m pc ls (.ref a :: rest)) :=
  va_get (D := D) (ci := 1) (C := RX1) (T := TX1) (N := 8) S.1 S.2.1 S.2.2.2.2 iwX1 S.2.2.2.1 hK hP q0 he rfl 6 (by decide) (S.2.2.2.2 _ tb169) (fun _ h9 => h9) hv hdg kk
theorem gf_X6_198 {p : Program} {l : Launch} {e : Env} {R : Room} {s : State} {m : MethodId} {args : Array Value} {below : List Frame} {meth : Method} {c : Code} {H : Heap} {locs : List Loc} {cells slots : Nat} {Q : State → Prop} {cc : ByteArray} {pc nL : Nat} {ls : Array Slot} {rest : List Value} {D : va_G} {ws : va_W} {tys : List (ClassId × FieldType)} (S : CallFix p m c cc nL s args TB RX6) (hK : va_K D vwCl tys s) (hP : va_P D vwCl ws H) (q0 : Nat) {a : Nat} {fs : List Value} (he : ws[q0]? = some (a, .inr (1, fs))) {v : Value} (hv : fs[5]? = some v) (hdg : decode cc pc = .ok (.getfield 198, 3))
    (kk : W p l e R s m args below meth c H locs cells slots Q (F0 m (pc + 3) ls (v :: rest))) : W p l e R s m args below meth c H locs cells slots Q (F0 m pc ls (.ref a :: rest)) :=
  va_get (D := D) (ci := 1) (C := RX1) (T := TX1) (N := 8) S.1 S.2.1 S.2.2.2.2 iwX1 S.2.2.2.1 hK hP q0 he rfl 5 (by decide) (S.2.2.2.2 _ tb167) (fun _ h9 => h9) hv hdg kk
theorem cw_X6_227 {R : Room} {s : State} {args : Array Value} (hts : ∀ w ∈ TB, w.before args s = true) (hR : rm_X5_put.frames + 1 ≤ R.frames ∧ 8 + (5 + 11) + rm_X5_put.locals ≤ R.locals) : CallW R s args RX6 RX5 227 yX5_put cX5_put 5 none (Cond.code yX5_put cX5_put 5 none :: TB) rm_X5_put 0 0 2 := cwV 2 hts (gV tb588 tb589 tb590 tb27 tb591) rfl rfl rfl ⟨rfl, by decide, by decide, by decide +kernel⟩ hR
theorem gf_X6_230 {p : Program} {l : Launch} {e : Env} {R : Room} {s : State} {m : MethodId} {args : Array Value} {below : List Frame} {meth : Method} {c : Code} {H : Heap} {locs : List Loc} {cells slots : Nat} {Q : State → Prop} {cc : ByteArray} {pc nL : Nat} {ls : Array Slot} {rest : List Value} {D : va_G} {ws : va_W} {tys : List (ClassId × FieldType)} (S : CallFix p m c cc nL s args TB RX6) (hK : va_K D vwCl tys s) (hP : va_P D vwCl ws H) (q0 : Nat) {a : Nat} {fs : List Value} (he : ws[q0]? = some (a, .inr (0, fs))) {v : Value} (hv : fs[5]? = some v) (hdg : decode cc pc = .ok (.getfield 230, 3))
    (kk : W p l e R s m args below meth c H locs cells slots Q (F0 m (pc + 3) ls (v :: rest))) : W p l e R s m args below meth c H locs cells slots Q (F0 m pc ls (.ref a :: rest)) :=
  va_get (D := D) (ci := 0) (C := RX0) (T := TX0) (N := 9) S.1 S.2.1 S.2.2.2.2 iwX0 S.2.2.2.1 hK hP q0 he rfl 5 (by decide) (S.2.2.2.2 _ tb203) (fun _ h9 => h9) hv hdg kk
theorem pf_X6_230 {p : Program} {l : Launch} {e : Env} {R : Room} {s : State} {m : MethodId} {args : Array Value} {below : List Frame} {meth : Method} {c : Code} {H H0 : Heap} {locs : List Loc} {cells slots : Nat} {Q : State → Prop} {cc : ByteArray} {pc nL : Nat} {ls : Array Slot} {rest : List Value} {D : va_G} {ws : va_W} {tys : List (ClassId × FieldType)} {A : Nat → Prop} {x9 : Int32} {v : Value} (S : CallFix p m c cc nL s args TB RX6) (hK : va_K D vwCl tys s) (hP : va_P D vwCl ws H) (hD : va_D A ws) (hS : va_S A H0 H locs) (q0 : Nat) {a : Nat} {fs : List Value} (he : ws[q0]? = some (a, .inr (0, fs))) (hle : 5 < fs.length) (hv9 : v = .int x9) (hdg : decode cc pc = .ok (.putfield 230, 3))
    (kk : ∀ (H1 : Heap) (locs1 : List Loc), va_P D vwCl (ws.set q0 (a, .inr (0, fs.set 5 v))) H1 → va_D A (ws.set q0 (a, .inr (0, fs.set 5 v))) → va_S A H0 H1 locs1 → W p l e R s m args below meth c H1 locs1 cells slots Q (F0 m (pc + 3) ls rest)) : W p l e R s m args below meth c H locs cells slots Q (F0 m pc ls (v :: .ref a :: rest)) := by
  subst hv9
  exact va_put (D := D) (ci := 0) (ty := .int) (C := RX0) (T := TX0) (N := 9) S.1 S.2.1 S.2.2.2.2 iwX0 tyX0 tyX0_ok nmX0 S.2.2.2.1 hK hP hD hS q0 he rfl 5 (by decide) (S.2.2.2.2 _ tb203) (fun _ h9 => h9) rfl (by decide +kernel) rfl rfl hle hdg kk
theorem gf_X6_186 {p : Program} {l : Launch} {e : Env} {R : Room} {s : State} {m : MethodId} {args : Array Value} {below : List Frame} {meth : Method} {c : Code} {H : Heap} {locs : List Loc} {cells slots : Nat} {Q : State → Prop} {cc : ByteArray} {pc nL : Nat} {ls : Array Slot} {rest : List Value} {D : va_G} {ws : va_W} {tys : List (ClassId × FieldType)} (S : CallFix p m c cc nL s args TB RX6) (hK : va_K D vwCl tys s) (hP : va_P D vwCl ws H) (q0 : Nat) {a : Nat} {fs : List Value} (he : ws[q0]? = some (a, .inr (1, fs))) {v : Value} (hv : fs[1]? = some v) (hdg : decode cc pc = .ok (.getfield 186, 3))
    (kk : W p l e R s m args below meth c H locs cells slots Q (F0 m (pc + 3) ls (v :: rest))) : W p l e R s m args below meth c H locs cells slots Q (F0 m pc ls (.ref a :: rest)) :=
  va_get (D := D) (ci := 1) (C := RX1) (T := TX1) (N := 8) S.1 S.2.1 S.2.2.2.2 iwX1 S.2.2.2.1 hK hP q0 he rfl 1 (by decide) (S.2.2.2.2 _ tb159) (fun _ h9 => h9) hv hdg kk
theorem gf_X6_192 {p : Program} {l : Launch} {e : Env} {R : Room} {s : State} {m : MethodId} {args : Array Value} {below : List Frame} {meth : Method} {c : Code} {H : Heap} {locs : List Loc} {cells slots : Nat} {Q : State → Prop} {cc : ByteArray} {pc nL : Nat} {ls : Array Slot} {rest : List Value} {D : va_G} {ws : va_W} {tys : List (ClassId × FieldType)} (S : CallFix p m c cc nL s args TB RX6) (hK : va_K D vwCl tys s) (hP : va_P D vwCl ws H) (q0 : Nat) {a : Nat} {fs : List Value} (he : ws[q0]? = some (a, .inr (1, fs))) {v : Value} (hv : fs[3]? = some v) (hdg : decode cc pc = .ok (.getfield 192, 3))
    (kk : W p l e R s m args below meth c H locs cells slots Q (F0 m (pc + 3) ls (v :: rest))) : W p l e R s m args below meth c H locs cells slots Q (F0 m pc ls (.ref a :: rest)) :=
  va_get (D := D) (ci := 1) (C := RX1) (T := TX1) (N := 8) S.1 S.2.1 S.2.2.2.2 iwX1 S.2.2.2.1 hK hP q0 he rfl 3 (by decide) (S.2.2.2.2 _ tb163) (fun _ h9 => h9) hv hdg kk
theorem cw_X6_233 {R : Room} {s : State} {args : Array Value} (hts : ∀ w ∈ TB, w.before args s = true) (hR : rm_X7_put.frames + 1 ≤ R.frames ∧ 8 + (2 + 11) + rm_X7_put.locals ≤ R.locals) : CallW R s args RX6 RX7 233 yX7_put cX7_put 2 none (Cond.code yX7_put cX7_put 2 none :: TB) rm_X7_put 0 0 1 := cwV 1 hts (gV tb596 tb597 tb598 tb26 tb599) rfl rfl rfl ⟨rfl, by decide, by decide, by decide +kernel⟩ hR
theorem cw_X6_235 {R : Room} {s : State} {args : Array Value} (hts : ∀ w ∈ TB, w.before args s = true) (hR : rm_X7_endsInSwitch.frames + 1 ≤ R.frames ∧ 8 + (1 + 11) + rm_X7_endsInSwitch.locals ≤ R.locals) : CallW R s args RX6 RX7 235 yX7_endsInSwitch cX7_endsInSwitch 1 (some .boolean) (Cond.code yX7_endsInSwitch cX7_endsInSwitch 1 (some .boolean) :: TB) rm_X7_endsInSwitch 0 0 0 := cwV 0 hts (gV tb600 tb601 tb602 tb26 tb603) rfl rfl rfl ⟨rfl, by decide, by decide, by decide +kernel⟩ hR
theorem gf_X6_238 {p : Program} {l : Launch} {e : Env} {R : Room} {s : State} {m : MethodId} {args : Array Value} {below : List Frame} {meth : Method} {c : Code} {H : Heap} {locs : List Loc} {cells slots : Nat} {Q : State → Prop} {cc : ByteArray} {pc nL : Nat} {ls : Array Slot} {rest : List Value} {D : va_G} {ws : va_W} {tys : List (ClassId × FieldType)} (S : CallFix p m c cc nL s args TB RX6) (hK : va_K D vwCl tys s) (hP : va_P D vwCl ws H) (q0 : Nat) {a : Nat} {fs : List Value} (he : ws[q0]? = some (a, .inr (0, fs))) {v : Value} (hv : fs[6]? = some v) (hdg : decode cc pc = .ok (.getfield 238, 3))
    (kk : W p l e R s m args below meth c H locs cells slots Q (F0 m (pc + 3) ls (v :: rest))) : W p l e R s m args below meth c H locs cells slots Q (F0 m pc ls (.ref a :: rest)) :=
  va_get (D := D) (ci := 0) (C := RX0) (T := TX0) (N := 9) S.1 S.2.1 S.2.2.2.2 iwX0 S.2.2.2.1 hK hP q0 he rfl 6 (by decide) (S.2.2.2.2 _ tb205) (fun _ h9 => h9) hv hdg kk
theorem pf_X6_238 {p : Program} {l : Launch} {e : Env} {R : Room} {s : State} {m : MethodId} {args : Array Value} {below : List Frame} {meth : Method} {c : Code} {H H0 : Heap} {locs : List Loc} {cells slots : Nat} {Q : State → Prop} {cc : ByteArray} {pc nL : Nat} {ls : Array Slot} {rest : List Value} {D : va_G} {ws : va_W} {tys : List (ClassId × FieldType)} {A : Nat → Prop} {x9 : Int32} {v : Value} (S : CallFix p m c cc nL s args TB RX6) (hK : va_K D vwCl tys s) (hP : va_P D vwCl ws H) (hD : va_D A ws) (hS : va_S A H0 H locs) (q0 : Nat) {a : Nat} {fs : List Value} (he : ws[q0]? = some (a, .inr (0, fs))) (hle : 6 < fs.length) (hv9 : v = .int x9) (hdg : decode cc pc = .ok (.putfield 238, 3))
    (kk : ∀ (H1 : Heap) (locs1 : List Loc), va_P D vwCl (ws.set q0 (a, .inr (0, fs.set 6 v))) H1 → va_D A (ws.set q0 (a, .inr (0, fs.set 6 v))) → va_S A H0 H1 locs1 → W p l e R s m args below meth c H1 locs1 cells slots Q (F0 m (pc + 3) ls rest)) : W p l e R s m args below meth c H locs cells slots Q (F0 m pc ls (v :: .ref a :: rest)) := by
  subst hv9
  exact va_put (D := D) (ci := 0) (ty := .int) (C := RX0) (T := TX0) (N := 9) S.1 S.2.1 S.2.2.2.2 iwX0 tyX0 tyX0_ok nmX0 S.2.2.2.1 hK hP hD hS q0 he rfl 6 (by decide) (S.2.2.2.2 _ tb205) (fun _ h9 => h9) rfl (by decide +kernel) rfl rfl hle hdg kk
def f_X6_receive (v0_time v1_finished v1_switches v2_segments : Int32) (r3 : Nat → Int32) (v4_going v4_track v4_rung v4_waiting v4_duration : Int32) (v4_bits v4_received : Int64) (v5_kept : Int32) (r6 r7 : Nat → Int64) (v9_total v9_phases : Int32) (r10 r11 : Nat → Int32) (v12_segments : Int32) (r13 : Nat → Int32) : Int32 × Int32 × Int32 × (Nat → Int32) × Int32 × Int32 × Int32 × Int64 × Int32 × (Nat → Int64) × (Nat → Int64) × Int32 × (Nat → Int32) :=
  bnd3 (f_X1_receiveAt v4_waiting v4_duration v4_bits v4_received (f_X4_rateAt v9_total v9_phases r10 r11 v0_time)) fun (y1 : Int32) (y2 : Int32) (z3 : Int64) =>
  if (f_X1_isWhole v4_bits z3) = 0 then
    (v1_finished, v1_switches, v2_segments, r3, v4_going, y1, y2, z3, v5_kept, r6, r7, v12_segments, r13)
  else
    bnd3 (f_X5_put v5_kept r6 r7 v4_bits y2.toInt64) fun (y5 : Int32) (u6 : Nat → Int64) (u7 : Nat → Int64) =>
    if v4_track = 0 then
      bnd2 (f_X7_put v12_segments r13 v4_rung) fun (y9 : Int32) (u10 : Nat → Int32) =>
      if (f_X7_endsInSwitch y9 u10) = 0 then
        (v1_finished + 1, v1_switches, v2_segments, r3, 0, y1, y2, z3, y5, u6, u7, y9, u10)
      else
        (v1_finished + 1, v1_switches + 1, v2_segments, r3, 0, y1, y2, z3, y5, u6, u7, y9, u10)
    else
      bnd2 (f_X7_put v2_segments r3 v4_rung) fun (y12 : Int32) (u13 : Nat → Int32) =>
      (v1_finished + 1, v1_switches, y12, u13, 0, y1, y2, z3, y5, u6, u7, v12_segments, r13)
set_option maxHeartbeats 4000000 in
set_option maxRecDepth 100000 in
theorem c_X6_receive (l : Launch) (D : va_G) (cI cJ cC : ClassId) (h0 h1 h2 h3 h4 h5 h6 h7 h8 h9 h10 h11 h12 h13 kthis_line kthis_stream_values kthis_stream_video kthis_stream_audio : Nat) (v0_mode v0_startThreshold v0_lastRung v0_lastChange v0_state v0_time v0_position v1_startUpTime v1_stallTime v1_playTime v1_stalls v1_abandoned v1_finished v1_switches : Int32) (v1_wasted v1_quality : Int64) (v2_segments : Int32) (r3 : Nat → Int32) (v4_going v4_track v4_segment v4_rung v4_waiting v4_duration : Int32) (v4_bits v4_received : Int64) (v5_kept : Int32) (r6 r7 : Nat → Int64) (v9_total v9_phases : Int32) (r10 r11 : Nat → Int32) (v12_segments : Int32) (r13 : Nat → Int32) (sz : Nat)  (T : Int32 × Int32 × Int32 × (Nat → Int32) × Int32 × Int32 × Int32 × Int64 × Int32 × (Nat → Int64) × (Nat → Int64) × Int32 × (Nat → Int32)) (h : f_X6_receive v0_time v1_finished v1_switches v2_segments r3 v4_going v4_track v4_rung v4_waiting v4_duration v4_bits v4_received v5_kept r6 r7 v9_total v9_phases r10 r11 v12_segments r13 = T) : Met l yX6_receive (Cond.code yX6_receive cX6_receive 1 none :: TB) rm_X6_receive (PreW D cI cJ cC [(h0, .inr (6, [.ref h8, .ref h12, .ref h2, .ref h5, .ref h4, .ref h1, .ref kthis_line, .int v0_mode, .int v0_startThreshold, .int v0_lastRung, .int v0_lastChange, .int v0_state, .int v0_time, .int v0_position])), (h1, .inr (0, [.int v1_startUpTime, .int v1_stallTime, .int v1_playTime, .int v1_stalls, .int v1_abandoned, .int v1_finished, .int v1_switches, .long v1_wasted, .long v1_quality])), (h2, .inr (7, [.ref h3, .int v2_segments])), (h3, .inl (cI, 200, .inl r3)), (h4, .inr (1, [.int v4_going, .int v4_track, .int v4_segment, .int v4_rung, .int v4_waiting, .int v4_duration, .long v4_bits, .long v4_received])), (h5, .inr (5, [.ref h6, .ref h7, .int v5_kept])), (h6, .inl (cJ, 10, .inr (.inl r6))), (h7, .inl (cJ, 10, .inr (.inl r7))), (h8, .inr (8, [.ref kthis_stream_values, .ref kthis_stream_video, .ref kthis_stream_audio, .ref h9])), (h9, .inr (4, [.ref h10, .ref h11, .int v9_total, .int v9_phases])), (h10, .inl (cI, 20, .inl r10)), (h11, .inl (cI, 20, .inl r11)), (h12, .inr (7, [.ref h13, .int v12_segments])), (h13, .inl (cI, 200, .inl r13))] sz [.ref h0]) (QW none D [(h0, .inr (6, [.ref h8, .ref h12, .ref h2, .ref h5, .ref h4, .ref h1, .ref kthis_line, .int v0_mode, .int v0_startThreshold, .int v0_lastRung, .int v0_lastChange, .int v0_state, .int v0_time, .int v0_position])), (h1, .inr (0, [.int v1_startUpTime, .int v1_stallTime, .int v1_playTime, .int v1_stalls, .int v1_abandoned, .int T.1, .int T.2.1, .long v1_wasted, .long v1_quality])), (h2, .inr (7, [.ref h3, .int T.2.2.1])), (h3, .inl (cI, 200, .inl T.2.2.2.1)), (h4, .inr (1, [.int T.2.2.2.2.1, .int v4_track, .int v4_segment, .int v4_rung, .int T.2.2.2.2.2.1, .int T.2.2.2.2.2.2.1, .long v4_bits, .long T.2.2.2.2.2.2.2.1])), (h5, .inr (5, [.ref h6, .ref h7, .int T.2.2.2.2.2.2.2.2.1])), (h6, .inl (cJ, 10, .inr (.inl T.2.2.2.2.2.2.2.2.2.1))), (h7, .inl (cJ, 10, .inr (.inl T.2.2.2.2.2.2.2.2.2.2.1))), (h8, .inr (8, [.ref kthis_stream_values, .ref kthis_stream_video, .ref kthis_stream_audio, .ref h9])), (h9, .inr (4, [.ref h10, .ref h11, .int v9_total, .int v9_phases])), (h10, .inl (cI, 20, .inl r10)), (h11, .inl (cI, 20, .inl r11)), (h12, .inr (7, [.ref h13, .int T.2.2.2.2.2.2.2.2.2.2.2.1])), (h13, .inl (cI, 200, .inl T.2.2.2.2.2.2.2.2.2.2.2.2))] (va_A [(h0, .inr (6, [.ref h8, .ref h12, .ref h2, .ref h5, .ref h4, .ref h1, .ref kthis_line, .int v0_mode, .int v0_startThreshold, .int v0_lastRung, .int v0_lastChange, .int v0_state, .int v0_time, .int v0_position])), (h1, .inr (0, [.int v1_startUpTime, .int v1_stallTime, .int v1_playTime, .int v1_stalls, .int v1_abandoned, .int v1_finished, .int v1_switches, .long v1_wasted, .long v1_quality])), (h2, .inr (7, [.ref h3, .int v2_segments])), (h3, .inl (cI, 200, .inl r3)), (h4, .inr (1, [.int v4_going, .int v4_track, .int v4_segment, .int v4_rung, .int v4_waiting, .int v4_duration, .long v4_bits, .long v4_received])), (h5, .inr (5, [.ref h6, .ref h7, .int v5_kept])), (h6, .inl (cJ, 10, .inr (.inl r6))), (h7, .inl (cJ, 10, .inr (.inl r7))), (h8, .inr (8, [.ref kthis_stream_values, .ref kthis_stream_video, .ref kthis_stream_audio, .ref h9])), (h9, .inr (4, [.ref h10, .ref h11, .int v9_total, .int v9_phases])), (h10, .inl (cI, 20, .inl r10)), (h11, .inl (cI, 20, .inl r11)), (h12, .inr (7, [.ref h13, .int v12_segments])), (h13, .inl (cI, 200, .inl r13))] sz)) 0 0 (va_A [(h0, .inr (6, [.ref h8, .ref h12, .ref h2, .ref h5, .ref h4, .ref h1, .ref kthis_line, .int v0_mode, .int v0_startThreshold, .int v0_lastRung, .int v0_lastChange, .int v0_state, .int v0_time, .int v0_position])), (h1, .inr (0, [.int v1_startUpTime, .int v1_stallTime, .int v1_playTime, .int v1_stalls, .int v1_abandoned, .int v1_finished, .int v1_switches, .long v1_wasted, .long v1_quality])), (h2, .inr (7, [.ref h3, .int v2_segments])), (h3, .inl (cI, 200, .inl r3)), (h4, .inr (1, [.int v4_going, .int v4_track, .int v4_segment, .int v4_rung, .int v4_waiting, .int v4_duration, .long v4_bits, .long v4_received])), (h5, .inr (5, [.ref h6, .ref h7, .int v5_kept])), (h6, .inl (cJ, 10, .inr (.inl r6))), (h7, .inl (cJ, 10, .inr (.inl r7))), (h8, .inr (8, [.ref kthis_stream_values, .ref kthis_stream_video, .ref kthis_stream_audio, .ref h9])), (h9, .inr (4, [.ref h10, .ref h11, .int v9_total, .int v9_phases])), (h10, .inl (cI, 20, .inl r10)), (h11, .inl (cI, 20, .inl r11)), (h12, .inr (7, [.ref h13, .int v12_segments])), (h13, .inl (cI, 200, .inl r13))] sz) := by
  refine metW (own := RX6) (by decide) rfl (Nat.le_of_ble_eq_true rfl) ?_
  intro p e s m below meth c S hr hlk hP hK A hAe hD hA hS ls hl
  clear hAe
  have hx := S.1
  have hb := S.2.1
  have hl : lv_has ls 1 [(0, .ref h0)] := hl
  refine lv_aload_n hx hb dX6_receive_0 rfl (lv_at hl 0 rfl) ?_
  refine gf_X6_31 (v := .ref h4) S hK hP 0 rfl rfl dX6_receive_1 ?_
  refine lv_aload_n hx hb dX6_receive_4 rfl (lv_at hl 0 rfl) ?_
  refine gf_X6_53 (v := .ref h8) S hK hP 0 rfl rfl dX6_receive_5 ?_
  refine gf_X6_212 (v := .ref h9) S hK hP 8 rfl rfl dX6_receive_8 ?_
  refine lv_aload_n hx hb dX6_receive_11 rfl (lv_at hl 0 rfl) ?_
  refine gf_X6_79 (v := .int v0_time) S hK hP 0 rfl rfl dX6_receive_12 ?_
  refine rdV (pc1 := 18) (rest := [.ref h4]) (st1 := [.int (f_X4_rateAt v9_total v9_phases r10 r11 v0_time), .ref h4]) S (c_X4_rateAt l D cI cJ cC h9 h10 h11 v9_total v9_phases r10 r11 v0_time _ rfl) (cw_X6_216 S.2.2.2.2 ⟨Nat.le_of_ble_eq_true rfl, Nat.le_of_ble_eq_true rfl⟩) hK (hP.sub [9, 10, 11] rfl) rfl rfl rfl rfl hl.1 rfl (Nat.le_of_ble_eq_true rfl) ⟨Nat.zero_le _, Nat.zero_le _⟩ rfl rfl dX6_receive_15 ?_
  obtain ⟨y1, y2, z3, e_y1⟩ : ∃ a0 a1 a2, f_X1_receiveAt v4_waiting v4_duration v4_bits v4_received (f_X4_rateAt v9_total v9_phases r10 r11 v0_time) = (a0, a1, a2) := ⟨_, _, _, rfl⟩
  have h := bnd3_eq e_y1 h
  refine wrV (pc1 := 21) (rest := []) (st1 := []) (wr := [(h0, .inr (6, [.ref h8, .ref h12, .ref h2, .ref h5, .ref h4, .ref h1, .ref kthis_line, .int v0_mode, .int v0_startThreshold, .int v0_lastRung, .int v0_lastChange, .int v0_state, .int v0_time, .int v0_position])), (h1, .inr (0, [.int v1_startUpTime, .int v1_stallTime, .int v1_playTime, .int v1_stalls, .int v1_abandoned, .int v1_finished, .int v1_switches, .long v1_wasted, .long v1_quality])), (h2, .inr (7, [.ref h3, .int v2_segments])), (h3, .inl (cI, 200, .inl r3)), (h5, .inr (5, [.ref h6, .ref h7, .int v5_kept])), (h6, .inl (cJ, 10, .inr (.inl r6))), (h7, .inl (cJ, 10, .inr (.inl r7))), (h8, .inr (8, [.ref kthis_stream_values, .ref kthis_stream_video, .ref kthis_stream_audio, .ref h9])), (h9, .inr (4, [.ref h10, .ref h11, .int v9_total, .int v9_phases])), (h10, .inl (cI, 20, .inl r10)), (h11, .inl (cI, 20, .inl r11)), (h12, .inr (7, [.ref h13, .int v12_segments])), (h13, .inl (cI, 200, .inl r13))]) S (c_X1_receiveAt l D cI cJ cC h4 v4_going v4_track v4_segment v4_rung v4_waiting v4_duration v4_bits v4_received s.heap.size (f_X4_rateAt v9_total v9_phases r10 r11 v0_time) (y1, y2, z3) e_y1) (cw_X6_221 S.2.2.2.2 ⟨Nat.le_of_ble_eq_true rfl, Nat.le_of_ble_eq_true rfl⟩) hK hP hD hS hA [4] [0, 1, 2, 3, 5, 6, 7, 8, 9, 10, 11, 12, 13] rfl rfl rfl (by decide) (by decide) (by decide) rfl rfl rfl rfl hl.1 rfl (Nat.le_of_ble_eq_true rfl) ⟨Nat.zero_le _, Nat.zero_le _⟩ rfl rfl dX6_receive_18 (fun H locs hP hD hS => ?_)
  have hP : va_P D vwCl [(h0, .inr (6, [.ref h8, .ref h12, .ref h2, .ref h5, .ref h4, .ref h1, .ref kthis_line, .int v0_mode, .int v0_startThreshold, .int v0_lastRung, .int v0_lastChange, .int v0_state, .int v0_time, .int v0_position])), (h1, .inr (0, [.int v1_startUpTime, .int v1_stallTime, .int v1_playTime, .int v1_stalls, .int v1_abandoned, .int v1_finished, .int v1_switches, .long v1_wasted, .long v1_quality])), (h2, .inr (7, [.ref h3, .int v2_segments])), (h3, .inl (cI, 200, .inl r3)), (h5, .inr (5, [.ref h6, .ref h7, .int v5_kept])), (h6, .inl (cJ, 10, .inr (.inl r6))), (h7, .inl (cJ, 10, .inr (.inl r7))), (h8, .inr (8, [.ref kthis_stream_values, .ref kthis_stream_video, .ref kthis_stream_audio, .ref h9])), (h9, .inr (4, [.ref h10, .ref h11, .int v9_total, .int v9_phases])), (h10, .inl (cI, 20, .inl r10)), (h11, .inl (cI, 20, .inl r11)), (h12, .inr (7, [.ref h13, .int v12_segments])), (h13, .inl (cI, 200, .inl r13)), (h4, .inr (1, [.int v4_going, .int v4_track, .int v4_segment, .int v4_rung, .int y1, .int y2, .long v4_bits, .long z3]))] H := hP
  have hD : va_D A [(h0, .inr (6, [.ref h8, .ref h12, .ref h2, .ref h5, .ref h4, .ref h1, .ref kthis_line, .int v0_mode, .int v0_startThreshold, .int v0_lastRung, .int v0_lastChange, .int v0_state, .int v0_time, .int v0_position])), (h1, .inr (0, [.int v1_startUpTime, .int v1_stallTime, .int v1_playTime, .int v1_stalls, .int v1_abandoned, .int v1_finished, .int v1_switches, .long v1_wasted, .long v1_quality])), (h2, .inr (7, [.ref h3, .int v2_segments])), (h3, .inl (cI, 200, .inl r3)), (h5, .inr (5, [.ref h6, .ref h7, .int v5_kept])), (h6, .inl (cJ, 10, .inr (.inl r6))), (h7, .inl (cJ, 10, .inr (.inl r7))), (h8, .inr (8, [.ref kthis_stream_values, .ref kthis_stream_video, .ref kthis_stream_audio, .ref h9])), (h9, .inr (4, [.ref h10, .ref h11, .int v9_total, .int v9_phases])), (h10, .inl (cI, 20, .inl r10)), (h11, .inl (cI, 20, .inl r11)), (h12, .inr (7, [.ref h13, .int v12_segments])), (h13, .inl (cI, 200, .inl r13)), (h4, .inr (1, [.int v4_going, .int v4_track, .int v4_segment, .int v4_rung, .int y1, .int y2, .long v4_bits, .long z3]))] := hD
  refine lv_aload_n hx hb dX6_receive_21 rfl (lv_at hl 0 rfl) ?_
  refine gf_X6_31 (v := .ref h4) S hK hP 0 rfl rfl dX6_receive_22 ?_
  refine rdV (pc1 := 28) (rest := []) (st1 := [.int (f_X1_isWhole v4_bits z3)]) S (c_X1_isWhole l D cI cJ cC h4 v4_going v4_track v4_segment v4_rung y1 y2 v4_bits z3  _ rfl) (cw_X6_224 S.2.2.2.2 ⟨Nat.le_of_ble_eq_true rfl, Nat.le_of_ble_eq_true rfl⟩) hK (hP.sub [13] rfl) rfl rfl rfl rfl hl.1 rfl (Nat.le_of_ble_eq_true rfl) ⟨Nat.zero_le _, Nat.zero_le _⟩ rfl rfl dX6_receive_25 ?_
  refine lv_if_ne (tgt := 32) hx hb dX6_receive_28 (by decide) (fun c4 => ?_) (fun c4 => ?_)
  · have h := iteN c4 h
    refine lv_aload_n hx hb dX6_receive_32 rfl (lv_at hl 0 rfl) ?_
    refine gf_X6_31 (v := .ref h4) S hK hP 0 rfl rfl dX6_receive_33 ?_
    refine lv_iconst (v := 0) hx hb dX6_receive_36 li_0 ?_
    refine pf_X6_69 (v := .int 0) S hK hP hD hS 13 rfl (Nat.le_of_ble_eq_true rfl) (by decide) (by decide) dX6_receive_37 (fun H locs hP hD hS => ?_)
    have hP : va_P D vwCl [(h0, .inr (6, [.ref h8, .ref h12, .ref h2, .ref h5, .ref h4, .ref h1, .ref kthis_line, .int v0_mode, .int v0_startThreshold, .int v0_lastRung, .int v0_lastChange, .int v0_state, .int v0_time, .int v0_position])), (h1, .inr (0, [.int v1_startUpTime, .int v1_stallTime, .int v1_playTime, .int v1_stalls, .int v1_abandoned, .int v1_finished, .int v1_switches, .long v1_wasted, .long v1_quality])), (h2, .inr (7, [.ref h3, .int v2_segments])), (h3, .inl (cI, 200, .inl r3)), (h5, .inr (5, [.ref h6, .ref h7, .int v5_kept])), (h6, .inl (cJ, 10, .inr (.inl r6))), (h7, .inl (cJ, 10, .inr (.inl r7))), (h8, .inr (8, [.ref kthis_stream_values, .ref kthis_stream_video, .ref kthis_stream_audio, .ref h9])), (h9, .inr (4, [.ref h10, .ref h11, .int v9_total, .int v9_phases])), (h10, .inl (cI, 20, .inl r10)), (h11, .inl (cI, 20, .inl r11)), (h12, .inr (7, [.ref h13, .int v12_segments])), (h13, .inl (cI, 200, .inl r13)), (h4, .inr (1, [.int 0, .int v4_track, .int v4_segment, .int v4_rung, .int y1, .int y2, .long v4_bits, .long z3]))] H := hP
    have hD : va_D A [(h0, .inr (6, [.ref h8, .ref h12, .ref h2, .ref h5, .ref h4, .ref h1, .ref kthis_line, .int v0_mode, .int v0_startThreshold, .int v0_lastRung, .int v0_lastChange, .int v0_state, .int v0_time, .int v0_position])), (h1, .inr (0, [.int v1_startUpTime, .int v1_stallTime, .int v1_playTime, .int v1_stalls, .int v1_abandoned, .int v1_finished, .int v1_switches, .long v1_wasted, .long v1_quality])), (h2, .inr (7, [.ref h3, .int v2_segments])), (h3, .inl (cI, 200, .inl r3)), (h5, .inr (5, [.ref h6, .ref h7, .int v5_kept])), (h6, .inl (cJ, 10, .inr (.inl r6))), (h7, .inl (cJ, 10, .inr (.inl r7))), (h8, .inr (8, [.ref kthis_stream_values, .ref kthis_stream_video, .ref kthis_stream_audio, .ref h9])), (h9, .inr (4, [.ref h10, .ref h11, .int v9_total, .int v9_phases])), (h10, .inl (cI, 20, .inl r10)), (h11, .inl (cI, 20, .inl r11)), (h12, .inr (7, [.ref h13, .int v12_segments])), (h13, .inl (cI, 200, .inl r13)), (h4, .inr (1, [.int 0, .int v4_track, .int v4_segment, .int v4_rung, .int y1, .int y2, .long v4_bits, .long z3]))] := hD
    refine lv_aload_n hx hb dX6_receive_40 rfl (lv_at hl 0 rfl) ?_
    refine gf_X6_24 (v := .ref h5) S hK hP 0 rfl rfl dX6_receive_41 ?_
    refine lv_aload_n hx hb dX6_receive_44 rfl (lv_at hl 0 rfl) ?_
    refine gf_X6_31 (v := .ref h4) S hK hP 0 rfl rfl dX6_receive_45 ?_
    refine gf_X6_205 (v := .long v4_bits) S hK hP 13 rfl rfl dX6_receive_48 ?_
    refine lv_aload_n hx hb dX6_receive_51 rfl (lv_at hl 0 rfl) ?_
    refine gf_X6_31 (v := .ref h4) S hK hP 0 rfl rfl dX6_receive_52 ?_
    refine gf_X6_198 (v := .int y2) S hK hP 13 rfl rfl dX6_receive_55 ?_
    refine lv_i2l hx hb dX6_receive_58 rfl ?_
    obtain ⟨y5, u6, u7, e_y5⟩ : ∃ a0 a1 a2, f_X5_put v5_kept r6 r7 v4_bits y2.toInt64 = (a0, a1, a2) := ⟨_, _, _, rfl⟩
    have h := bnd3_eq e_y5 h
    refine wrV (pc1 := 62) (rest := []) (st1 := []) (wr := [(h0, .inr (6, [.ref h8, .ref h12, .ref h2, .ref h5, .ref h4, .ref h1, .ref kthis_line, .int v0_mode, .int v0_startThreshold, .int v0_lastRung, .int v0_lastChange, .int v0_state, .int v0_time, .int v0_position])), (h1, .inr (0, [.int v1_startUpTime, .int v1_stallTime, .int v1_playTime, .int v1_stalls, .int v1_abandoned, .int v1_finished, .int v1_switches, .long v1_wasted, .long v1_quality])), (h2, .inr (7, [.ref h3, .int v2_segments])), (h3, .inl (cI, 200, .inl r3)), (h8, .inr (8, [.ref kthis_stream_values, .ref kthis_stream_video, .ref kthis_stream_audio, .ref h9])), (h9, .inr (4, [.ref h10, .ref h11, .int v9_total, .int v9_phases])), (h10, .inl (cI, 20, .inl r10)), (h11, .inl (cI, 20, .inl r11)), (h12, .inr (7, [.ref h13, .int v12_segments])), (h13, .inl (cI, 200, .inl r13)), (h4, .inr (1, [.int 0, .int v4_track, .int v4_segment, .int v4_rung, .int y1, .int y2, .long v4_bits, .long z3]))]) S (c_X5_put l D cI cJ cC h5 h6 h7 v5_kept r6 r7 H.size v4_bits y2.toInt64 (y5, u6, u7) e_y5) (cw_X6_227 S.2.2.2.2 ⟨Nat.le_of_ble_eq_true rfl, Nat.le_of_ble_eq_true rfl⟩) hK hP hD hS hA [4, 5, 6] [0, 1, 2, 3, 7, 8, 9, 10, 11, 12, 13] rfl rfl rfl (by decide) (by decide) (by decide) rfl rfl rfl rfl hl.1 rfl (Nat.le_of_ble_eq_true rfl) ⟨Nat.zero_le _, Nat.zero_le _⟩ rfl rfl dX6_receive_59 (fun H locs hP hD hS => ?_)
    have hP : va_P D vwCl [(h0, .inr (6, [.ref h8, .ref h12, .ref h2, .ref h5, .ref h4, .ref h1, .ref kthis_line, .int v0_mode, .int v0_startThreshold, .int v0_lastRung, .int v0_lastChange, .int v0_state, .int v0_time, .int v0_position])), (h1, .inr (0, [.int v1_startUpTime, .int v1_stallTime, .int v1_playTime, .int v1_stalls, .int v1_abandoned, .int v1_finished, .int v1_switches, .long v1_wasted, .long v1_quality])), (h2, .inr (7, [.ref h3, .int v2_segments])), (h3, .inl (cI, 200, .inl r3)), (h8, .inr (8, [.ref kthis_stream_values, .ref kthis_stream_video, .ref kthis_stream_audio, .ref h9])), (h9, .inr (4, [.ref h10, .ref h11, .int v9_total, .int v9_phases])), (h10, .inl (cI, 20, .inl r10)), (h11, .inl (cI, 20, .inl r11)), (h12, .inr (7, [.ref h13, .int v12_segments])), (h13, .inl (cI, 200, .inl r13)), (h4, .inr (1, [.int 0, .int v4_track, .int v4_segment, .int v4_rung, .int y1, .int y2, .long v4_bits, .long z3])), (h5, .inr (5, [.ref h6, .ref h7, .int y5])), (h6, .inl (cJ, 10, .inr (.inl u6))), (h7, .inl (cJ, 10, .inr (.inl u7)))] H := hP
    have hD : va_D A [(h0, .inr (6, [.ref h8, .ref h12, .ref h2, .ref h5, .ref h4, .ref h1, .ref kthis_line, .int v0_mode, .int v0_startThreshold, .int v0_lastRung, .int v0_lastChange, .int v0_state, .int v0_time, .int v0_position])), (h1, .inr (0, [.int v1_startUpTime, .int v1_stallTime, .int v1_playTime, .int v1_stalls, .int v1_abandoned, .int v1_finished, .int v1_switches, .long v1_wasted, .long v1_quality])), (h2, .inr (7, [.ref h3, .int v2_segments])), (h3, .inl (cI, 200, .inl r3)), (h8, .inr (8, [.ref kthis_stream_values, .ref kthis_stream_video, .ref kthis_stream_audio, .ref h9])), (h9, .inr (4, [.ref h10, .ref h11, .int v9_total, .int v9_phases])), (h10, .inl (cI, 20, .inl r10)), (h11, .inl (cI, 20, .inl r11)), (h12, .inr (7, [.ref h13, .int v12_segments])), (h13, .inl (cI, 200, .inl r13)), (h4, .inr (1, [.int 0, .int v4_track, .int v4_segment, .int v4_rung, .int y1, .int y2, .long v4_bits, .long z3])), (h5, .inr (5, [.ref h6, .ref h7, .int y5])), (h6, .inl (cJ, 10, .inr (.inl u6))), (h7, .inl (cJ, 10, .inr (.inl u7)))] := hD
    refine lv_aload_n hx hb dX6_receive_62 rfl (lv_at hl 0 rfl) ?_
    refine gf_X6_38 (v := .ref h1) S hK hP 0 rfl rfl dX6_receive_63 ?_
    refine lv_dup hx hb dX6_receive_66 rfl ?_
    refine gf_X6_230 (v := .int v1_finished) S hK hP 1 rfl rfl dX6_receive_67 ?_
    refine lv_iconst (v := 1) hx hb dX6_receive_70 li_1 ?_
    refine lv_iadd hx hb dX6_receive_71 ?_
    refine pf_X6_230 (v := .int (v1_finished + 1)) S hK hP hD hS 1 rfl (Nat.le_of_ble_eq_true rfl) rfl dX6_receive_72 (fun H locs hP hD hS => ?_)
    have hP : va_P D vwCl [(h0, .inr (6, [.ref h8, .ref h12, .ref h2, .ref h5, .ref h4, .ref h1, .ref kthis_line, .int v0_mode, .int v0_startThreshold, .int v0_lastRung, .int v0_lastChange, .int v0_state, .int v0_time, .int v0_position])), (h1, .inr (0, [.int v1_startUpTime, .int v1_stallTime, .int v1_playTime, .int v1_stalls, .int v1_abandoned, .int (v1_finished + 1), .int v1_switches, .long v1_wasted, .long v1_quality])), (h2, .inr (7, [.ref h3, .int v2_segments])), (h3, .inl (cI, 200, .inl r3)), (h8, .inr (8, [.ref kthis_stream_values, .ref kthis_stream_video, .ref kthis_stream_audio, .ref h9])), (h9, .inr (4, [.ref h10, .ref h11, .int v9_total, .int v9_phases])), (h10, .inl (cI, 20, .inl r10)), (h11, .inl (cI, 20, .inl r11)), (h12, .inr (7, [.ref h13, .int v12_segments])), (h13, .inl (cI, 200, .inl r13)), (h4, .inr (1, [.int 0, .int v4_track, .int v4_segment, .int v4_rung, .int y1, .int y2, .long v4_bits, .long z3])), (h5, .inr (5, [.ref h6, .ref h7, .int y5])), (h6, .inl (cJ, 10, .inr (.inl u6))), (h7, .inl (cJ, 10, .inr (.inl u7)))] H := hP
    have hD : va_D A [(h0, .inr (6, [.ref h8, .ref h12, .ref h2, .ref h5, .ref h4, .ref h1, .ref kthis_line, .int v0_mode, .int v0_startThreshold, .int v0_lastRung, .int v0_lastChange, .int v0_state, .int v0_time, .int v0_position])), (h1, .inr (0, [.int v1_startUpTime, .int v1_stallTime, .int v1_playTime, .int v1_stalls, .int v1_abandoned, .int (v1_finished + 1), .int v1_switches, .long v1_wasted, .long v1_quality])), (h2, .inr (7, [.ref h3, .int v2_segments])), (h3, .inl (cI, 200, .inl r3)), (h8, .inr (8, [.ref kthis_stream_values, .ref kthis_stream_video, .ref kthis_stream_audio, .ref h9])), (h9, .inr (4, [.ref h10, .ref h11, .int v9_total, .int v9_phases])), (h10, .inl (cI, 20, .inl r10)), (h11, .inl (cI, 20, .inl r11)), (h12, .inr (7, [.ref h13, .int v12_segments])), (h13, .inl (cI, 200, .inl r13)), (h4, .inr (1, [.int 0, .int v4_track, .int v4_segment, .int v4_rung, .int y1, .int y2, .long v4_bits, .long z3])), (h5, .inr (5, [.ref h6, .ref h7, .int y5])), (h6, .inl (cJ, 10, .inr (.inl u6))), (h7, .inl (cJ, 10, .inr (.inl u7)))] := hD
    refine lv_aload_n hx hb dX6_receive_75 rfl (lv_at hl 0 rfl) ?_
    refine lv_aload_n hx hb dX6_receive_76 rfl (lv_at hl 0 rfl) ?_
    refine gf_X6_31 (v := .ref h4) S hK hP 0 rfl rfl dX6_receive_77 ?_
    refine gf_X6_186 (v := .int v4_track) S hK hP 10 rfl rfl dX6_receive_80 ?_
    by_cases c8 : v4_track = 0
    · have h := iteP c8 h
      refine rdV (pc1 := 86) (rest := []) (st1 := [.ref h12]) S (c_X6_shelfOf_0 l D cI cJ cC h0 h8 h12 h2 h5 h4 h1 kthis_line v0_mode v0_startThreshold v0_lastRung v0_lastChange v0_state v0_time v0_position v4_track c8) (cw_X6_163 S.2.2.2.2 ⟨Nat.le_of_ble_eq_true rfl, Nat.le_of_ble_eq_true rfl⟩) hK (hP.sub [0] rfl) rfl rfl rfl rfl hl.1 rfl (Nat.le_of_ble_eq_true rfl) ⟨Nat.zero_le _, Nat.zero_le _⟩ rfl rfl dX6_receive_83 ?_
      refine lv_aload_n hx hb dX6_receive_86 rfl (lv_at hl 0 rfl) ?_
      refine gf_X6_31 (v := .ref h4) S hK hP 0 rfl rfl dX6_receive_87 ?_
      refine gf_X6_192 (v := .int v4_rung) S hK hP 10 rfl rfl dX6_receive_90 ?_
      obtain ⟨y9, u10, e_y9⟩ : ∃ a0 a1, f_X7_put v12_segments r13 v4_rung = (a0, a1) := ⟨_, _, rfl⟩
      have h := bnd2_eq e_y9 h
      refine wrV (pc1 := 96) (rest := []) (st1 := []) (wr := [(h0, .inr (6, [.ref h8, .ref h12, .ref h2, .ref h5, .ref h4, .ref h1, .ref kthis_line, .int v0_mode, .int v0_startThreshold, .int v0_lastRung, .int v0_lastChange, .int v0_state, .int v0_time, .int v0_position])), (h1, .inr (0, [.int v1_startUpTime, .int v1_stallTime, .int v1_playTime, .int v1_stalls, .int v1_abandoned, .int (v1_finished + 1), .int v1_switches, .long v1_wasted, .long v1_quality])), (h2, .inr (7, [.ref h3, .int v2_segments])), (h3, .inl (cI, 200, .inl r3)), (h8, .inr (8, [.ref kthis_stream_values, .ref kthis_stream_video, .ref kthis_stream_audio, .ref h9])), (h9, .inr (4, [.ref h10, .ref h11, .int v9_total, .int v9_phases])), (h10, .inl (cI, 20, .inl r10)), (h11, .inl (cI, 20, .inl r11)), (h4, .inr (1, [.int 0, .int v4_track, .int v4_segment, .int v4_rung, .int y1, .int y2, .long v4_bits, .long z3])), (h5, .inr (5, [.ref h6, .ref h7, .int y5])), (h6, .inl (cJ, 10, .inr (.inl u6))), (h7, .inl (cJ, 10, .inr (.inl u7)))]) S (c_X7_put l D cI cJ cC h12 h13 v12_segments r13 H.size v4_rung (y9, u10) e_y9) (cw_X6_233 S.2.2.2.2 ⟨Nat.le_of_ble_eq_true rfl, Nat.le_of_ble_eq_true rfl⟩) hK hP hD hS hA [8, 9] [0, 1, 2, 3, 4, 5, 6, 7, 10, 11, 12, 13] rfl rfl rfl (by decide) (by decide) (by decide) rfl rfl rfl rfl hl.1 rfl (Nat.le_of_ble_eq_true rfl) ⟨Nat.zero_le _, Nat.zero_le _⟩ rfl rfl dX6_receive_93 (fun H locs hP hD hS => ?_)
      have hP : va_P D vwCl [(h0, .inr (6, [.ref h8, .ref h12, .ref h2, .ref h5, .ref h4, .ref h1, .ref kthis_line, .int v0_mode, .int v0_startThreshold, .int v0_lastRung, .int v0_lastChange, .int v0_state, .int v0_time, .int v0_position])), (h1, .inr (0, [.int v1_startUpTime, .int v1_stallTime, .int v1_playTime, .int v1_stalls, .int v1_abandoned, .int (v1_finished + 1), .int v1_switches, .long v1_wasted, .long v1_quality])), (h2, .inr (7, [.ref h3, .int v2_segments])), (h3, .inl (cI, 200, .inl r3)), (h8, .inr (8, [.ref kthis_stream_values, .ref kthis_stream_video, .ref kthis_stream_audio, .ref h9])), (h9, .inr (4, [.ref h10, .ref h11, .int v9_total, .int v9_phases])), (h10, .inl (cI, 20, .inl r10)), (h11, .inl (cI, 20, .inl r11)), (h4, .inr (1, [.int 0, .int v4_track, .int v4_segment, .int v4_rung, .int y1, .int y2, .long v4_bits, .long z3])), (h5, .inr (5, [.ref h6, .ref h7, .int y5])), (h6, .inl (cJ, 10, .inr (.inl u6))), (h7, .inl (cJ, 10, .inr (.inl u7))), (h12, .inr (7, [.ref h13, .int y9])), (h13, .inl (cI, 200, .inl u10))] H := hP
      have hD : va_D A [(h0, .inr (6, [.ref h8, .ref h12, .ref h2, .ref h5, .ref h4, .ref h1, .ref kthis_line, .int v0_mode, .int v0_startThreshold, .int v0_lastRung, .int v0_lastChange, .int v0_state, .int v0_time, .int v0_position])), (h1, .inr (0, [.int v1_startUpTime, .int v1_stallTime, .int v1_playTime, .int v1_stalls, .int v1_abandoned, .int (v1_finished + 1), .int v1_switches, .long v1_wasted, .long v1_quality])), (h2, .inr (7, [.ref h3, .int v2_segments])), (h3, .inl (cI, 200, .inl r3)), (h8, .inr (8, [.ref kthis_stream_values, .ref kthis_stream_video, .ref kthis_stream_audio, .ref h9])), (h9, .inr (4, [.ref h10, .ref h11, .int v9_total, .int v9_phases])), (h10, .inl (cI, 20, .inl r10)), (h11, .inl (cI, 20, .inl r11)), (h4, .inr (1, [.int 0, .int v4_track, .int v4_segment, .int v4_rung, .int y1, .int y2, .long v4_bits, .long z3])), (h5, .inr (5, [.ref h6, .ref h7, .int y5])), (h6, .inl (cJ, 10, .inr (.inl u6))), (h7, .inl (cJ, 10, .inr (.inl u7))), (h12, .inr (7, [.ref h13, .int y9])), (h13, .inl (cI, 200, .inl u10))] := hD
      refine lv_aload_n hx hb dX6_receive_96 rfl (lv_at hl 0 rfl) ?_
      refine gf_X6_31 (v := .ref h4) S hK hP 0 rfl rfl dX6_receive_97 ?_
      refine gf_X6_186 (v := .int v4_track) S hK hP 8 rfl rfl dX6_receive_100 ?_
      refine lv_if_ne (tgt := 129) hx hb dX6_receive_103 (by decide) (fun c9 => absurd c8 c9) (fun _ => ?_)
      refine lv_aload_n hx hb dX6_receive_106 rfl (lv_at hl 0 rfl) ?_
      refine gf_X6_12 (v := .ref h12) S hK hP 0 rfl rfl dX6_receive_107 ?_
      refine rdV (pc1 := 113) (rest := []) (st1 := [.int (f_X7_endsInSwitch y9 u10)]) S (c_X7_endsInSwitch l D cI cJ cC h12 h13 y9 u10  _ rfl) (cw_X6_235 S.2.2.2.2 ⟨Nat.le_of_ble_eq_true rfl, Nat.le_of_ble_eq_true rfl⟩) hK (hP.sub [12, 13] rfl) rfl rfl rfl rfl hl.1 rfl (Nat.le_of_ble_eq_true rfl) ⟨Nat.zero_le _, Nat.zero_le _⟩ rfl rfl dX6_receive_110 ?_
      refine lv_if_eq (tgt := 129) hx hb dX6_receive_113 (by decide) (fun c11 => ?_) (fun c11 => ?_)
      · have h := iteP c11 h
        subst h
        exact wRv S hr hlk (hP.sub [0, 1, 2, 3, 8, 9, 10, 11, 4, 5, 6, 7, 12, 13] rfl) (hD.sub [0, 1, 2, 3, 8, 9, 10, 11, 4, 5, 6, 7, 12, 13] (by decide) rfl) hS dX6_receive_129
      · have h := iteN c11 h
        refine lv_aload_n hx hb dX6_receive_116 rfl (lv_at hl 0 rfl) ?_
        refine gf_X6_38 (v := .ref h1) S hK hP 0 rfl rfl dX6_receive_117 ?_
        refine lv_dup hx hb dX6_receive_120 rfl ?_
        refine gf_X6_238 (v := .int v1_switches) S hK hP 1 rfl rfl dX6_receive_121 ?_
        refine lv_iconst (v := 1) hx hb dX6_receive_124 li_1 ?_
        refine lv_iadd hx hb dX6_receive_125 ?_
        refine pf_X6_238 (v := .int (v1_switches + 1)) S hK hP hD hS 1 rfl (Nat.le_of_ble_eq_true rfl) rfl dX6_receive_126 (fun H locs hP hD hS => ?_)
        have hP : va_P D vwCl [(h0, .inr (6, [.ref h8, .ref h12, .ref h2, .ref h5, .ref h4, .ref h1, .ref kthis_line, .int v0_mode, .int v0_startThreshold, .int v0_lastRung, .int v0_lastChange, .int v0_state, .int v0_time, .int v0_position])), (h1, .inr (0, [.int v1_startUpTime, .int v1_stallTime, .int v1_playTime, .int v1_stalls, .int v1_abandoned, .int (v1_finished + 1), .int (v1_switches + 1), .long v1_wasted, .long v1_quality])), (h2, .inr (7, [.ref h3, .int v2_segments])), (h3, .inl (cI, 200, .inl r3)), (h8, .inr (8, [.ref kthis_stream_values, .ref kthis_stream_video, .ref kthis_stream_audio, .ref h9])), (h9, .inr (4, [.ref h10, .ref h11, .int v9_total, .int v9_phases])), (h10, .inl (cI, 20, .inl r10)), (h11, .inl (cI, 20, .inl r11)), (h4, .inr (1, [.int 0, .int v4_track, .int v4_segment, .int v4_rung, .int y1, .int y2, .long v4_bits, .long z3])), (h5, .inr (5, [.ref h6, .ref h7, .int y5])), (h6, .inl (cJ, 10, .inr (.inl u6))), (h7, .inl (cJ, 10, .inr (.inl u7))), (h12, .inr (7, [.ref h13, .int y9])), (h13, .inl (cI, 200, .inl u10))] H := hP
        have hD : va_D A [(h0, .inr (6, [.ref h8, .ref h12, .ref h2, .ref h5, .ref h4, .ref h1, .ref kthis_line, .int v0_mode, .int v0_startThreshold, .int v0_lastRung, .int v0_lastChange, .int v0_state, .int v0_time, .int v0_position])), (h1, .inr (0, [.int v1_startUpTime, .int v1_stallTime, .int v1_playTime, .int v1_stalls, .int v1_abandoned, .int (v1_finished + 1), .int (v1_switches + 1), .long v1_wasted, .long v1_quality])), (h2, .inr (7, [.ref h3, .int v2_segments])), (h3, .inl (cI, 200, .inl r3)), (h8, .inr (8, [.ref kthis_stream_values, .ref kthis_stream_video, .ref kthis_stream_audio, .ref h9])), (h9, .inr (4, [.ref h10, .ref h11, .int v9_total, .int v9_phases])), (h10, .inl (cI, 20, .inl r10)), (h11, .inl (cI, 20, .inl r11)), (h4, .inr (1, [.int 0, .int v4_track, .int v4_segment, .int v4_rung, .int y1, .int y2, .long v4_bits, .long z3])), (h5, .inr (5, [.ref h6, .ref h7, .int y5])), (h6, .inl (cJ, 10, .inr (.inl u6))), (h7, .inl (cJ, 10, .inr (.inl u7))), (h12, .inr (7, [.ref h13, .int y9])), (h13, .inl (cI, 200, .inl u10))] := hD
        subst h
        exact wRv S hr hlk (hP.sub [0, 1, 2, 3, 8, 9, 10, 11, 4, 5, 6, 7, 12, 13] rfl) (hD.sub [0, 1, 2, 3, 8, 9, 10, 11, 4, 5, 6, 7, 12, 13] (by decide) rfl) hS dX6_receive_129
    · have h := iteN c8 h
      refine rdV (pc1 := 86) (rest := []) (st1 := [.ref h2]) S (c_X6_shelfOf_1 l D cI cJ cC h0 h8 h12 h2 h5 h4 h1 kthis_line v0_mode v0_startThreshold v0_lastRung v0_lastChange v0_state v0_time v0_position v4_track c8) (cw_X6_163 S.2.2.2.2 ⟨Nat.le_of_ble_eq_true rfl, Nat.le_of_ble_eq_true rfl⟩) hK (hP.sub [0] rfl) rfl rfl rfl rfl hl.1 rfl (Nat.le_of_ble_eq_true rfl) ⟨Nat.zero_le _, Nat.zero_le _⟩ rfl rfl dX6_receive_83 ?_
      refine lv_aload_n hx hb dX6_receive_86 rfl (lv_at hl 0 rfl) ?_
      refine gf_X6_31 (v := .ref h4) S hK hP 0 rfl rfl dX6_receive_87 ?_
      refine gf_X6_192 (v := .int v4_rung) S hK hP 10 rfl rfl dX6_receive_90 ?_
      obtain ⟨y12, u13, e_y12⟩ : ∃ a0 a1, f_X7_put v2_segments r3 v4_rung = (a0, a1) := ⟨_, _, rfl⟩
      have h := bnd2_eq e_y12 h
      refine wrV (pc1 := 96) (rest := []) (st1 := []) (wr := [(h0, .inr (6, [.ref h8, .ref h12, .ref h2, .ref h5, .ref h4, .ref h1, .ref kthis_line, .int v0_mode, .int v0_startThreshold, .int v0_lastRung, .int v0_lastChange, .int v0_state, .int v0_time, .int v0_position])), (h1, .inr (0, [.int v1_startUpTime, .int v1_stallTime, .int v1_playTime, .int v1_stalls, .int v1_abandoned, .int (v1_finished + 1), .int v1_switches, .long v1_wasted, .long v1_quality])), (h8, .inr (8, [.ref kthis_stream_values, .ref kthis_stream_video, .ref kthis_stream_audio, .ref h9])), (h9, .inr (4, [.ref h10, .ref h11, .int v9_total, .int v9_phases])), (h10, .inl (cI, 20, .inl r10)), (h11, .inl (cI, 20, .inl r11)), (h12, .inr (7, [.ref h13, .int v12_segments])), (h13, .inl (cI, 200, .inl r13)), (h4, .inr (1, [.int 0, .int v4_track, .int v4_segment, .int v4_rung, .int y1, .int y2, .long v4_bits, .long z3])), (h5, .inr (5, [.ref h6, .ref h7, .int y5])), (h6, .inl (cJ, 10, .inr (.inl u6))), (h7, .inl (cJ, 10, .inr (.inl u7)))]) S (c_X7_put l D cI cJ cC h2 h3 v2_segments r3 H.size v4_rung (y12, u13) e_y12) (cw_X6_233 S.2.2.2.2 ⟨Nat.le_of_ble_eq_true rfl, Nat.le_of_ble_eq_true rfl⟩) hK hP hD hS hA [2, 3] [0, 1, 4, 5, 6, 7, 8, 9, 10, 11, 12, 13] rfl rfl rfl (by decide) (by decide) (by decide) rfl rfl rfl rfl hl.1 rfl (Nat.le_of_ble_eq_true rfl) ⟨Nat.zero_le _, Nat.zero_le _⟩ rfl rfl dX6_receive_93 (fun H locs hP hD hS => ?_)
      have hP : va_P D vwCl [(h0, .inr (6, [.ref h8, .ref h12, .ref h2, .ref h5, .ref h4, .ref h1, .ref kthis_line, .int v0_mode, .int v0_startThreshold, .int v0_lastRung, .int v0_lastChange, .int v0_state, .int v0_time, .int v0_position])), (h1, .inr (0, [.int v1_startUpTime, .int v1_stallTime, .int v1_playTime, .int v1_stalls, .int v1_abandoned, .int (v1_finished + 1), .int v1_switches, .long v1_wasted, .long v1_quality])), (h8, .inr (8, [.ref kthis_stream_values, .ref kthis_stream_video, .ref kthis_stream_audio, .ref h9])), (h9, .inr (4, [.ref h10, .ref h11, .int v9_total, .int v9_phases])), (h10, .inl (cI, 20, .inl r10)), (h11, .inl (cI, 20, .inl r11)), (h12, .inr (7, [.ref h13, .int v12_segments])), (h13, .inl (cI, 200, .inl r13)), (h4, .inr (1, [.int 0, .int v4_track, .int v4_segment, .int v4_rung, .int y1, .int y2, .long v4_bits, .long z3])), (h5, .inr (5, [.ref h6, .ref h7, .int y5])), (h6, .inl (cJ, 10, .inr (.inl u6))), (h7, .inl (cJ, 10, .inr (.inl u7))), (h2, .inr (7, [.ref h3, .int y12])), (h3, .inl (cI, 200, .inl u13))] H := hP
      have hD : va_D A [(h0, .inr (6, [.ref h8, .ref h12, .ref h2, .ref h5, .ref h4, .ref h1, .ref kthis_line, .int v0_mode, .int v0_startThreshold, .int v0_lastRung, .int v0_lastChange, .int v0_state, .int v0_time, .int v0_position])), (h1, .inr (0, [.int v1_startUpTime, .int v1_stallTime, .int v1_playTime, .int v1_stalls, .int v1_abandoned, .int (v1_finished + 1), .int v1_switches, .long v1_wasted, .long v1_quality])), (h8, .inr (8, [.ref kthis_stream_values, .ref kthis_stream_video, .ref kthis_stream_audio, .ref h9])), (h9, .inr (4, [.ref h10, .ref h11, .int v9_total, .int v9_phases])), (h10, .inl (cI, 20, .inl r10)), (h11, .inl (cI, 20, .inl r11)), (h12, .inr (7, [.ref h13, .int v12_segments])), (h13, .inl (cI, 200, .inl r13)), (h4, .inr (1, [.int 0, .int v4_track, .int v4_segment, .int v4_rung, .int y1, .int y2, .long v4_bits, .long z3])), (h5, .inr (5, [.ref h6, .ref h7, .int y5])), (h6, .inl (cJ, 10, .inr (.inl u6))), (h7, .inl (cJ, 10, .inr (.inl u7))), (h2, .inr (7, [.ref h3, .int y12])), (h3, .inl (cI, 200, .inl u13))] := hD
      refine lv_aload_n hx hb dX6_receive_96 rfl (lv_at hl 0 rfl) ?_
      refine gf_X6_31 (v := .ref h4) S hK hP 0 rfl rfl dX6_receive_97 ?_
      refine gf_X6_186 (v := .int v4_track) S hK hP 8 rfl rfl dX6_receive_100 ?_
      refine lv_if_ne (tgt := 129) hx hb dX6_receive_103 (by decide) (fun _ => ?_) (fun c9 => absurd c9 c8)
      subst h
      exact wRv S hr hlk (hP.sub [0, 1, 12, 13, 8, 9, 10, 11, 2, 3, 4, 5, 6, 7] rfl) (hD.sub [0, 1, 12, 13, 8, 9, 10, 11, 2, 3, 4, 5, 6, 7] (by decide) rfl) hS dX6_receive_129
  · have h := iteP c4 h
    subst h
    exact wRv S hr hlk (hP.sub [0, 1, 2, 3, 13, 4, 5, 6, 7, 8, 9, 10, 11, 12] rfl) (hD.sub [0, 1, 2, 3, 13, 4, 5, 6, 7, 8, 9, 10, 11, 12] (by decide) rfl) hS dX6_receive_31
abbrev rm_X6_mayBeAbandoned : Room := { frames := 1, cells := 0, slots := 0, locals := 21 }
theorem dX6_mayBeAbandoned_0 : decode cX6_mayBeAbandoned 0 = .ok (.aload_n 0, 1) := by decide +kernel
theorem dX6_mayBeAbandoned_1 : decode cX6_mayBeAbandoned 1 = .ok (.getfield 31, 3) := by decide +kernel
theorem dX6_mayBeAbandoned_4 : decode cX6_mayBeAbandoned 4 = .ok (.getfield 69, 3) := by decide +kernel
theorem dX6_mayBeAbandoned_7 : decode cX6_mayBeAbandoned 7 = .ok (.ifCond .eq 67, 3) := by decide +kernel
theorem dX6_mayBeAbandoned_10 : decode cX6_mayBeAbandoned 10 = .ok (.aload_n 0, 1) := by decide +kernel
theorem dX6_mayBeAbandoned_11 : decode cX6_mayBeAbandoned 11 = .ok (.getfield 31, 3) := by decide +kernel
theorem dX6_mayBeAbandoned_14 : decode cX6_mayBeAbandoned 14 = .ok (.getfield 186, 3) := by decide +kernel
theorem dX6_mayBeAbandoned_17 : decode cX6_mayBeAbandoned 17 = .ok (.ifCond .ne 57, 3) := by decide +kernel
theorem dX6_mayBeAbandoned_20 : decode cX6_mayBeAbandoned 20 = .ok (.aload_n 0, 1) := by decide +kernel
theorem dX6_mayBeAbandoned_21 : decode cX6_mayBeAbandoned 21 = .ok (.getfield 31, 3) := by decide +kernel
theorem dX6_mayBeAbandoned_24 : decode cX6_mayBeAbandoned 24 = .ok (.getfield 192, 3) := by decide +kernel
theorem dX6_mayBeAbandoned_27 : decode cX6_mayBeAbandoned 27 = .ok (.ifCond .le 47, 3) := by decide +kernel
theorem dX6_mayBeAbandoned_30 : decode cX6_mayBeAbandoned 30 = .ok (.aload_n 0, 1) := by decide +kernel
theorem dX6_mayBeAbandoned_31 : decode cX6_mayBeAbandoned 31 = .ok (.getfield 31, 3) := by decide +kernel
theorem dX6_mayBeAbandoned_34 : decode cX6_mayBeAbandoned 34 = .ok (.getfield 209, 3) := by decide +kernel
theorem dX6_mayBeAbandoned_37 : decode cX6_mayBeAbandoned 37 = .ok (.lconst 0, 1) := by decide +kernel
theorem dX6_mayBeAbandoned_38 : decode cX6_mayBeAbandoned 38 = .ok (.lcmp, 1) := by decide +kernel
theorem dX6_mayBeAbandoned_39 : decode cX6_mayBeAbandoned 39 = .ok (.ifCond .le 35, 3) := by decide +kernel
theorem dX6_mayBeAbandoned_42 : decode cX6_mayBeAbandoned 42 = .ok (.aload_n 0, 1) := by decide +kernel
theorem dX6_mayBeAbandoned_43 : decode cX6_mayBeAbandoned 43 = .ok (.getfield 31, 3) := by decide +kernel
theorem dX6_mayBeAbandoned_46 : decode cX6_mayBeAbandoned 46 = .ok (.getfield 198, 3) := by decide +kernel
theorem dX6_mayBeAbandoned_49 : decode cX6_mayBeAbandoned 49 = .ok (.aload_n 0, 1) := by decide +kernel
theorem dX6_mayBeAbandoned_50 : decode cX6_mayBeAbandoned 50 = .ok (.getfield 53, 3) := by decide +kernel
theorem dX6_mayBeAbandoned_53 : decode cX6_mayBeAbandoned 53 = .ok (.bipush 11, 2) := by decide +kernel
theorem dX6_mayBeAbandoned_55 : decode cX6_mayBeAbandoned 55 = .ok (.invokevirtual 176, 3) := by decide +kernel
theorem dX6_mayBeAbandoned_58 : decode cX6_mayBeAbandoned 58 = .ok (.aload_n 0, 1) := by decide +kernel
theorem dX6_mayBeAbandoned_59 : decode cX6_mayBeAbandoned 59 = .ok (.getfield 53, 3) := by decide +kernel
theorem dX6_mayBeAbandoned_62 : decode cX6_mayBeAbandoned 62 = .ok (.iconst 2, 1) := by decide +kernel
theorem dX6_mayBeAbandoned_63 : decode cX6_mayBeAbandoned 63 = .ok (.invokevirtual 176, 3) := by decide +kernel
theorem dX6_mayBeAbandoned_66 : decode cX6_mayBeAbandoned 66 = .ok (.iadd, 1) := by decide +kernel
theorem dX6_mayBeAbandoned_67 : decode cX6_mayBeAbandoned 67 = .ok (.if_icmp .lt 7, 3) := by decide +kernel
theorem dX6_mayBeAbandoned_70 : decode cX6_mayBeAbandoned 70 = .ok (.iconst 1, 1) := by decide +kernel
theorem dX6_mayBeAbandoned_71 : decode cX6_mayBeAbandoned 71 = .ok (.goto 4, 3) := by decide +kernel
theorem dX6_mayBeAbandoned_74 : decode cX6_mayBeAbandoned 74 = .ok (.iconst 0, 1) := by decide +kernel
theorem dX6_mayBeAbandoned_75 : decode cX6_mayBeAbandoned 75 = .ok (.ireturn, 1) := by decide +kernel
theorem gf_X6_69 {p : Program} {l : Launch} {e : Env} {R : Room} {s : State} {m : MethodId} {args : Array Value} {below : List Frame} {meth : Method} {c : Code} {H : Heap} {locs : List Loc} {cells slots : Nat} {Q : State → Prop} {cc : ByteArray} {pc nL : Nat} {ls : Array Slot} {rest : List Value} {D : va_G} {ws : va_W} {tys : List (ClassId × FieldType)} (S : CallFix p m c cc nL s args TB RX6) (hK : va_K D vwCl tys s) (hP : va_P D vwCl ws H) (q0 : Nat) {a : Nat} {fs : List Value} (he : ws[q0]? = some (a, .inr (1, fs))) {v : Value} (hv : fs[0]? = some v) (hdg : decode cc pc = .ok (.getfield 69, 3))
    (kk : W p l e R s m args below meth c H locs cells slots Q (F0 m (pc + 3) ls (v :: rest))) : W p l e R s m args below meth c H locs cells slots Q (F0 m pc ls (.ref a :: rest)) :=
  va_get (D := D) (ci := 1) (C := RX1) (T := TX1) (N := 8) S.1 S.2.1 S.2.2.2.2 iwX1 S.2.2.2.1 hK hP q0 he rfl 0 (by decide) (S.2.2.2.2 _ tb157) (fun _ h9 => h9) hv hdg kk
theorem gf_X6_209 {p : Program} {l : Launch} {e : Env} {R : Room} {s : State} {m : MethodId} {args : Array Value} {below : List Frame} {meth : Method} {c : Code} {H : Heap} {locs : List Loc} {cells slots : Nat} {Q : State → Prop} {cc : ByteArray} {pc nL : Nat} {ls : Array Slot} {rest : List Value} {D : va_G} {ws : va_W} {tys : List (ClassId × FieldType)} (S : CallFix p m c cc nL s args TB RX6) (hK : va_K D vwCl tys s) (hP : va_P D vwCl ws H) (q0 : Nat) {a : Nat} {fs : List Value} (he : ws[q0]? = some (a, .inr (1, fs))) {v : Value} (hv : fs[7]? = some v) (hdg : decode cc pc = .ok (.getfield 209, 3))
    (kk : W p l e R s m args below meth c H locs cells slots Q (F0 m (pc + 3) ls (v :: rest))) : W p l e R s m args below meth c H locs cells slots Q (F0 m pc ls (.ref a :: rest)) :=
  va_get (D := D) (ci := 1) (C := RX1) (T := TX1) (N := 8) S.1 S.2.1 S.2.2.2.2 iwX1 S.2.2.2.1 hK hP q0 he rfl 7 (by decide) (S.2.2.2.2 _ tb171) (fun _ h9 => h9) hv hdg kk
def f_X6_mayBeAbandoned (v1_going v1_track v1_rung v1_duration : Int32) (v1_received : Int64) (r3 : Nat → Int32) : Int32 :=
  if v1_going = 0 then
    0
  else
    if v1_track = 0 then
      if v1_rung ≤ 0 then
        0
      else
        if v1_received ≤ 0 then
          0
        else
          if v1_duration < ((f_X8_valueOf r3 11) + (f_X8_valueOf r3 2)) then
            0
          else
            1
    else
      0
set_option maxHeartbeats 4000000 in
set_option maxRecDepth 100000 in
theorem c_X6_mayBeAbandoned (l : Launch) (D : va_G) (cI cJ cC : ClassId) (h0 h1 h2 h3 kthis_video kthis_audio kthis_samples kthis_accounts kthis_line kthis_stream_video kthis_stream_audio kthis_stream_plan : Nat) (v0_mode v0_startThreshold v0_lastRung v0_lastChange v0_state v0_time v0_position v1_going v1_track v1_segment v1_rung v1_waiting v1_duration : Int32) (v1_bits v1_received : Int64) (r3 : Nat → Int32)  (t0 : Int32) (h : f_X6_mayBeAbandoned v1_going v1_track v1_rung v1_duration v1_received r3 = t0) : Met l yX6_mayBeAbandoned (Cond.code yX6_mayBeAbandoned cX6_mayBeAbandoned 1 (some .boolean) :: TB) rm_X6_mayBeAbandoned (PreR D cI cJ cC [(h0, .inr (6, [.ref h2, .ref kthis_video, .ref kthis_audio, .ref kthis_samples, .ref h1, .ref kthis_accounts, .ref kthis_line, .int v0_mode, .int v0_startThreshold, .int v0_lastRung, .int v0_lastChange, .int v0_state, .int v0_time, .int v0_position])), (h1, .inr (1, [.int v1_going, .int v1_track, .int v1_segment, .int v1_rung, .int v1_waiting, .int v1_duration, .long v1_bits, .long v1_received])), (h2, .inr (8, [.ref h3, .ref kthis_stream_video, .ref kthis_stream_audio, .ref kthis_stream_plan])), (h3, .inl (cI, 15, .inl r3))] [.ref h0]) (QR (some (.int t0))) 0 0 free0 := by
  refine metR (own := RX6) (by decide) rfl (Nat.le_of_ble_eq_true rfl) ?_
  intro p e s m below meth c S hr hlk hP hK ls hl
  have hx := S.1
  have hb := S.2.1
  have hl : lv_has ls 1 [(0, .ref h0)] := hl
  refine lv_aload_n hx hb dX6_mayBeAbandoned_0 rfl (lv_at hl 0 rfl) ?_
  refine gf_X6_31 (v := .ref h1) S hK hP 0 rfl rfl dX6_mayBeAbandoned_1 ?_
  refine gf_X6_69 (v := .int v1_going) S hK hP 1 rfl rfl dX6_mayBeAbandoned_4 ?_
  refine lv_if_eq (tgt := 74) hx hb dX6_mayBeAbandoned_7 (by decide) (fun c1 => ?_) (fun c1 => ?_)
  · have h := iteP c1 h
    refine lv_iconst (v := 0) hx hb dX6_mayBeAbandoned_74 li_0 ?_
    subst h
    exact rRz S hr hlk (by decide) dX6_mayBeAbandoned_75
  · have h := iteN c1 h
    refine lv_aload_n hx hb dX6_mayBeAbandoned_10 rfl (lv_at hl 0 rfl) ?_
    refine gf_X6_31 (v := .ref h1) S hK hP 0 rfl rfl dX6_mayBeAbandoned_11 ?_
    refine gf_X6_186 (v := .int v1_track) S hK hP 1 rfl rfl dX6_mayBeAbandoned_14 ?_
    refine lv_if_ne (tgt := 74) hx hb dX6_mayBeAbandoned_17 (by decide) (fun c2 => ?_) (fun c2 => ?_)
    · have h := iteN c2 h
      refine lv_iconst (v := 0) hx hb dX6_mayBeAbandoned_74 li_0 ?_
      subst h
      exact rRz S hr hlk (by decide) dX6_mayBeAbandoned_75
    · have h := iteP c2 h
      refine lv_aload_n hx hb dX6_mayBeAbandoned_20 rfl (lv_at hl 0 rfl) ?_
      refine gf_X6_31 (v := .ref h1) S hK hP 0 rfl rfl dX6_mayBeAbandoned_21 ?_
      refine gf_X6_192 (v := .int v1_rung) S hK hP 1 rfl rfl dX6_mayBeAbandoned_24 ?_
      refine lv_if_le (tgt := 74) hx hb dX6_mayBeAbandoned_27 (by decide) (fun c3 => ?_) (fun c3 => ?_)
      · have h := iteP c3 h
        refine lv_iconst (v := 0) hx hb dX6_mayBeAbandoned_74 li_0 ?_
        subst h
        exact rRz S hr hlk (by decide) dX6_mayBeAbandoned_75
      · have h := iteN c3 h
        refine lv_aload_n hx hb dX6_mayBeAbandoned_30 rfl (lv_at hl 0 rfl) ?_
        refine gf_X6_31 (v := .ref h1) S hK hP 0 rfl rfl dX6_mayBeAbandoned_31 ?_
        refine gf_X6_209 (v := .long v1_received) S hK hP 1 rfl rfl dX6_mayBeAbandoned_34 ?_
        refine lv_lconst (v := 0) hx hb dX6_mayBeAbandoned_37 rfl ?_
        refine lc_le (tgt := 74) hx hb dX6_mayBeAbandoned_38 dX6_mayBeAbandoned_39 (by decide) (fun c4 => ?_) (fun c4 => ?_)
        · have h := iteP c4 h
          refine lv_iconst (v := 0) hx hb dX6_mayBeAbandoned_74 li_0 ?_
          subst h
          exact rRz S hr hlk (by decide) dX6_mayBeAbandoned_75
        · have h := iteN c4 h
          refine lv_aload_n hx hb dX6_mayBeAbandoned_42 rfl (lv_at hl 0 rfl) ?_
          refine gf_X6_31 (v := .ref h1) S hK hP 0 rfl rfl dX6_mayBeAbandoned_43 ?_
          refine gf_X6_198 (v := .int v1_duration) S hK hP 1 rfl rfl dX6_mayBeAbandoned_46 ?_
          refine lv_aload_n hx hb dX6_mayBeAbandoned_49 rfl (lv_at hl 0 rfl) ?_
          refine gf_X6_53 (v := .ref h2) S hK hP 0 rfl rfl dX6_mayBeAbandoned_50 ?_
          refine lv_bipush (v := 11) hx hb dX6_mayBeAbandoned_53 lb_11 ?_
          refine rdV (pc1 := 58) (rest := [.int v1_duration]) (st1 := [.int (f_X8_valueOf r3 11), .int v1_duration]) S (c_X8_valueOf l D cI cJ cC h2 h3 kthis_stream_video kthis_stream_audio kthis_stream_plan r3 11 _ rfl) (cw_X6_176 S.2.2.2.2 ⟨Nat.le_of_ble_eq_true rfl, Nat.le_of_ble_eq_true rfl⟩) hK (hP.sub [2, 3] rfl) rfl rfl rfl rfl hl.1 rfl (Nat.le_of_ble_eq_true rfl) ⟨Nat.zero_le _, Nat.zero_le _⟩ rfl rfl dX6_mayBeAbandoned_55 ?_
          refine lv_aload_n hx hb dX6_mayBeAbandoned_58 rfl (lv_at hl 0 rfl) ?_
          refine gf_X6_53 (v := .ref h2) S hK hP 0 rfl rfl dX6_mayBeAbandoned_59 ?_
          refine lv_iconst (v := 2) hx hb dX6_mayBeAbandoned_62 li_2 ?_
          refine rdV (pc1 := 66) (rest := [.int (f_X8_valueOf r3 11), .int v1_duration]) (st1 := [.int (f_X8_valueOf r3 2), .int (f_X8_valueOf r3 11), .int v1_duration]) S (c_X8_valueOf l D cI cJ cC h2 h3 kthis_stream_video kthis_stream_audio kthis_stream_plan r3 2 _ rfl) (cw_X6_176 S.2.2.2.2 ⟨Nat.le_of_ble_eq_true rfl, Nat.le_of_ble_eq_true rfl⟩) hK (hP.sub [2, 3] rfl) rfl rfl rfl rfl hl.1 rfl (Nat.le_of_ble_eq_true rfl) ⟨Nat.zero_le _, Nat.zero_le _⟩ rfl rfl dX6_mayBeAbandoned_63 ?_
          refine lv_iadd hx hb dX6_mayBeAbandoned_66 ?_
          refine lv_icmp_lt (tgt := 74) hx hb dX6_mayBeAbandoned_67 (by decide) (fun c5 => ?_) (fun c5 => ?_)
          · have h := iteP c5 h
            refine lv_iconst (v := 0) hx hb dX6_mayBeAbandoned_74 li_0 ?_
            subst h
            exact rRz S hr hlk (by decide) dX6_mayBeAbandoned_75
          · have h := iteN c5 h
            refine lv_iconst (v := 1) hx hb dX6_mayBeAbandoned_70 li_1 ?_
            refine lv_goto (tgt := 75) hx hb dX6_mayBeAbandoned_71 (by decide) ?_
            subst h
            exact rRz S hr hlk (by decide) dX6_mayBeAbandoned_75
abbrev rm_X6_abandonIfSlow : Room := { frames := 3, cells := 0, slots := 0, locals := 74 }
theorem dX6_abandonIfSlow_0 : decode cX6_abandonIfSlow 0 = .ok (.aload_n 0, 1) := by decide +kernel
theorem dX6_abandonIfSlow_1 : decode cX6_abandonIfSlow 1 = .ok (.getfield 31, 3) := by decide +kernel
theorem dX6_abandonIfSlow_4 : decode cX6_abandonIfSlow 4 = .ok (.aload_n 0, 1) := by decide +kernel
theorem dX6_abandonIfSlow_5 : decode cX6_abandonIfSlow 5 = .ok (.getfield 31, 3) := by decide +kernel
theorem dX6_abandonIfSlow_8 : decode cX6_abandonIfSlow 8 = .ok (.getfield 205, 3) := by decide +kernel
theorem dX6_abandonIfSlow_11 : decode cX6_abandonIfSlow 11 = .ok (.aload_n 0, 1) := by decide +kernel
theorem dX6_abandonIfSlow_12 : decode cX6_abandonIfSlow 12 = .ok (.getfield 31, 3) := by decide +kernel
theorem dX6_abandonIfSlow_15 : decode cX6_abandonIfSlow 15 = .ok (.getfield 209, 3) := by decide +kernel
theorem dX6_abandonIfSlow_18 : decode cX6_abandonIfSlow 18 = .ok (.lsub, 1) := by decide +kernel
theorem dX6_abandonIfSlow_19 : decode cX6_abandonIfSlow 19 = .ok (.invokevirtual 241, 3) := by decide +kernel
theorem dX6_abandonIfSlow_22 : decode cX6_abandonIfSlow 22 = .ok (.lstore_n 1, 1) := by decide +kernel
theorem dX6_abandonIfSlow_23 : decode cX6_abandonIfSlow 23 = .ok (.lload_n 1, 1) := by decide +kernel
theorem dX6_abandonIfSlow_24 : decode cX6_abandonIfSlow 24 = .ok (.aload_n 0, 1) := by decide +kernel
theorem dX6_abandonIfSlow_25 : decode cX6_abandonIfSlow 25 = .ok (.iconst 0, 1) := by decide +kernel
theorem dX6_abandonIfSlow_26 : decode cX6_abandonIfSlow 26 = .ok (.invokevirtual 183, 3) := by decide +kernel
theorem dX6_abandonIfSlow_29 : decode cX6_abandonIfSlow 29 = .ok (.i2l, 1) := by decide +kernel
theorem dX6_abandonIfSlow_30 : decode cX6_abandonIfSlow 30 = .ok (.lcmp, 1) := by decide +kernel
theorem dX6_abandonIfSlow_31 : decode cX6_abandonIfSlow 31 = .ok (.ifCond .gt 4, 3) := by decide +kernel
theorem dX6_abandonIfSlow_34 : decode cX6_abandonIfSlow 34 = .ok (.return_, 1) := by decide +kernel
theorem dX6_abandonIfSlow_35 : decode cX6_abandonIfSlow 35 = .ok (.aload_n 0, 1) := by decide +kernel
theorem dX6_abandonIfSlow_36 : decode cX6_abandonIfSlow 36 = .ok (.getfield 31, 3) := by decide +kernel
theorem dX6_abandonIfSlow_39 : decode cX6_abandonIfSlow 39 = .ok (.getfield 192, 3) := by decide +kernel
theorem dX6_abandonIfSlow_42 : decode cX6_abandonIfSlow 42 = .ok (.iconst 1, 1) := by decide +kernel
theorem dX6_abandonIfSlow_43 : decode cX6_abandonIfSlow 43 = .ok (.isub, 1) := by decide +kernel
theorem dX6_abandonIfSlow_44 : decode cX6_abandonIfSlow 44 = .ok (.istore_n 3, 1) := by decide +kernel
theorem dX6_abandonIfSlow_45 : decode cX6_abandonIfSlow 45 = .ok (.iload_n 3, 1) := by decide +kernel
theorem dX6_abandonIfSlow_46 : decode cX6_abandonIfSlow 46 = .ok (.ifCond .lt 87, 3) := by decide +kernel
theorem dX6_abandonIfSlow_49 : decode cX6_abandonIfSlow 49 = .ok (.aload_n 0, 1) := by decide +kernel
theorem dX6_abandonIfSlow_50 : decode cX6_abandonIfSlow 50 = .ok (.getfield 31, 3) := by decide +kernel
theorem dX6_abandonIfSlow_53 : decode cX6_abandonIfSlow 53 = .ok (.aload_n 0, 1) := by decide +kernel
theorem dX6_abandonIfSlow_54 : decode cX6_abandonIfSlow 54 = .ok (.getfield 53, 3) := by decide +kernel
theorem dX6_abandonIfSlow_57 : decode cX6_abandonIfSlow 57 = .ok (.iconst 0, 1) := by decide +kernel
theorem dX6_abandonIfSlow_58 : decode cX6_abandonIfSlow 58 = .ok (.iload_n 3, 1) := by decide +kernel
theorem dX6_abandonIfSlow_59 : decode cX6_abandonIfSlow 59 = .ok (.aload_n 0, 1) := by decide +kernel
theorem dX6_abandonIfSlow_60 : decode cX6_abandonIfSlow 60 = .ok (.getfield 31, 3) := by decide +kernel
theorem dX6_abandonIfSlow_63 : decode cX6_abandonIfSlow 63 = .ok (.getfield 189, 3) := by decide +kernel
theorem dX6_abandonIfSlow_66 : decode cX6_abandonIfSlow 66 = .ok (.invokevirtual 201, 3) := by decide +kernel
theorem dX6_abandonIfSlow_69 : decode cX6_abandonIfSlow 69 = .ok (.invokevirtual 241, 3) := by decide +kernel
theorem dX6_abandonIfSlow_72 : decode cX6_abandonIfSlow 72 = .ok (.lstore 4, 2) := by decide +kernel
theorem dX6_abandonIfSlow_74 : decode cX6_abandonIfSlow 74 = .ok (.lload 4, 2) := by decide +kernel
theorem dX6_abandonIfSlow_76 : decode cX6_abandonIfSlow 76 = .ok (.lload_n 1, 1) := by decide +kernel
theorem dX6_abandonIfSlow_77 : decode cX6_abandonIfSlow 77 = .ok (.lcmp, 1) := by decide +kernel
theorem dX6_abandonIfSlow_78 : decode cX6_abandonIfSlow 78 = .ok (.ifCond .ge 49, 3) := by decide +kernel
theorem dX6_abandonIfSlow_81 : decode cX6_abandonIfSlow 81 = .ok (.aload_n 0, 1) := by decide +kernel
theorem dX6_abandonIfSlow_82 : decode cX6_abandonIfSlow 82 = .ok (.getfield 38, 3) := by decide +kernel
theorem dX6_abandonIfSlow_85 : decode cX6_abandonIfSlow 85 = .ok (.dup, 1) := by decide +kernel
theorem dX6_abandonIfSlow_86 : decode cX6_abandonIfSlow 86 = .ok (.getfield 245, 3) := by decide +kernel
theorem dX6_abandonIfSlow_89 : decode cX6_abandonIfSlow 89 = .ok (.iconst 1, 1) := by decide +kernel
theorem dX6_abandonIfSlow_90 : decode cX6_abandonIfSlow 90 = .ok (.iadd, 1) := by decide +kernel
theorem dX6_abandonIfSlow_91 : decode cX6_abandonIfSlow 91 = .ok (.putfield 245, 3) := by decide +kernel
theorem dX6_abandonIfSlow_94 : decode cX6_abandonIfSlow 94 = .ok (.aload_n 0, 1) := by decide +kernel
theorem dX6_abandonIfSlow_95 : decode cX6_abandonIfSlow 95 = .ok (.getfield 38, 3) := by decide +kernel
theorem dX6_abandonIfSlow_98 : decode cX6_abandonIfSlow 98 = .ok (.dup, 1) := by decide +kernel
theorem dX6_abandonIfSlow_99 : decode cX6_abandonIfSlow 99 = .ok (.getfield 248, 3) := by decide +kernel
theorem dX6_abandonIfSlow_102 : decode cX6_abandonIfSlow 102 = .ok (.aload_n 0, 1) := by decide +kernel
theorem dX6_abandonIfSlow_103 : decode cX6_abandonIfSlow 103 = .ok (.getfield 31, 3) := by decide +kernel
theorem dX6_abandonIfSlow_106 : decode cX6_abandonIfSlow 106 = .ok (.getfield 209, 3) := by decide +kernel
theorem dX6_abandonIfSlow_109 : decode cX6_abandonIfSlow 109 = .ok (.ladd, 1) := by decide +kernel
theorem dX6_abandonIfSlow_110 : decode cX6_abandonIfSlow 110 = .ok (.putfield 248, 3) := by decide +kernel
theorem dX6_abandonIfSlow_113 : decode cX6_abandonIfSlow 113 = .ok (.aload_n 0, 1) := by decide +kernel
theorem dX6_abandonIfSlow_114 : decode cX6_abandonIfSlow 114 = .ok (.iconst 0, 1) := by decide +kernel
theorem dX6_abandonIfSlow_115 : decode cX6_abandonIfSlow 115 = .ok (.aload_n 0, 1) := by decide +kernel
theorem dX6_abandonIfSlow_116 : decode cX6_abandonIfSlow 116 = .ok (.getfield 31, 3) := by decide +kernel
theorem dX6_abandonIfSlow_119 : decode cX6_abandonIfSlow 119 = .ok (.getfield 189, 3) := by decide +kernel
theorem dX6_abandonIfSlow_122 : decode cX6_abandonIfSlow 122 = .ok (.iload_n 3, 1) := by decide +kernel
theorem dX6_abandonIfSlow_123 : decode cX6_abandonIfSlow 123 = .ok (.invokevirtual 152, 3) := by decide +kernel
theorem dX6_abandonIfSlow_126 : decode cX6_abandonIfSlow 126 = .ok (.return_, 1) := by decide +kernel
theorem dX6_abandonIfSlow_127 : decode cX6_abandonIfSlow 127 = .ok (.iinc 3 (-1), 3) := by decide +kernel
theorem dX6_abandonIfSlow_130 : decode cX6_abandonIfSlow 130 = .ok (.goto (-85), 3) := by decide +kernel
theorem dX6_abandonIfSlow_133 : decode cX6_abandonIfSlow 133 = .ok (.return_, 1) := by decide +kernel
theorem cw_X6_241 {R : Room} {s : State} {args : Array Value} (hts : ∀ w ∈ TB, w.before args s = true) (hR : rm_X1_timeFor.frames + 1 ≤ R.frames ∧ 8 + (3 + 11) + rm_X1_timeFor.locals ≤ R.locals) : CallW R s args RX6 RX1 241 yX1_timeFor cX1_timeFor 3 (some .long) (Cond.code yX1_timeFor cX1_timeFor 3 (some .long) :: TB) rm_X1_timeFor 0 0 1 := cwV 1 hts (gV tb611 tb612 tb613 tb28 tb614) rfl rfl rfl ⟨rfl, by decide, by decide, by decide +kernel⟩ hR
theorem gf_X6_189 {p : Program} {l : Launch} {e : Env} {R : Room} {s : State} {m : MethodId} {args : Array Value} {below : List Frame} {meth : Method} {c : Code} {H : Heap} {locs : List Loc} {cells slots : Nat} {Q : State → Prop} {cc : ByteArray} {pc nL : Nat} {ls : Array Slot} {rest : List Value} {D : va_G} {ws : va_W} {tys : List (ClassId × FieldType)} (S : CallFix p m c cc nL s args TB RX6) (hK : va_K D vwCl tys s) (hP : va_P D vwCl ws H) (q0 : Nat) {a : Nat} {fs : List Value} (he : ws[q0]? = some (a, .inr (1, fs))) {v : Value} (hv : fs[2]? = some v) (hdg : decode cc pc = .ok (.getfield 189, 3))
    (kk : W p l e R s m args below meth c H locs cells slots Q (F0 m (pc + 3) ls (v :: rest))) : W p l e R s m args below meth c H locs cells slots Q (F0 m pc ls (.ref a :: rest)) :=
  va_get (D := D) (ci := 1) (C := RX1) (T := TX1) (N := 8) S.1 S.2.1 S.2.2.2.2 iwX1 S.2.2.2.1 hK hP q0 he rfl 2 (by decide) (S.2.2.2.2 _ tb161) (fun _ h9 => h9) hv hdg kk
theorem gf_X6_245 {p : Program} {l : Launch} {e : Env} {R : Room} {s : State} {m : MethodId} {args : Array Value} {below : List Frame} {meth : Method} {c : Code} {H : Heap} {locs : List Loc} {cells slots : Nat} {Q : State → Prop} {cc : ByteArray} {pc nL : Nat} {ls : Array Slot} {rest : List Value} {D : va_G} {ws : va_W} {tys : List (ClassId × FieldType)} (S : CallFix p m c cc nL s args TB RX6) (hK : va_K D vwCl tys s) (hP : va_P D vwCl ws H) (q0 : Nat) {a : Nat} {fs : List Value} (he : ws[q0]? = some (a, .inr (0, fs))) {v : Value} (hv : fs[4]? = some v) (hdg : decode cc pc = .ok (.getfield 245, 3))
    (kk : W p l e R s m args below meth c H locs cells slots Q (F0 m (pc + 3) ls (v :: rest))) : W p l e R s m args below meth c H locs cells slots Q (F0 m pc ls (.ref a :: rest)) :=
  va_get (D := D) (ci := 0) (C := RX0) (T := TX0) (N := 9) S.1 S.2.1 S.2.2.2.2 iwX0 S.2.2.2.1 hK hP q0 he rfl 4 (by decide) (S.2.2.2.2 _ tb201) (fun _ h9 => h9) hv hdg kk
theorem pf_X6_245 {p : Program} {l : Launch} {e : Env} {R : Room} {s : State} {m : MethodId} {args : Array Value} {below : List Frame} {meth : Method} {c : Code} {H H0 : Heap} {locs : List Loc} {cells slots : Nat} {Q : State → Prop} {cc : ByteArray} {pc nL : Nat} {ls : Array Slot} {rest : List Value} {D : va_G} {ws : va_W} {tys : List (ClassId × FieldType)} {A : Nat → Prop} {x9 : Int32} {v : Value} (S : CallFix p m c cc nL s args TB RX6) (hK : va_K D vwCl tys s) (hP : va_P D vwCl ws H) (hD : va_D A ws) (hS : va_S A H0 H locs) (q0 : Nat) {a : Nat} {fs : List Value} (he : ws[q0]? = some (a, .inr (0, fs))) (hle : 4 < fs.length) (hv9 : v = .int x9) (hdg : decode cc pc = .ok (.putfield 245, 3))
    (kk : ∀ (H1 : Heap) (locs1 : List Loc), va_P D vwCl (ws.set q0 (a, .inr (0, fs.set 4 v))) H1 → va_D A (ws.set q0 (a, .inr (0, fs.set 4 v))) → va_S A H0 H1 locs1 → W p l e R s m args below meth c H1 locs1 cells slots Q (F0 m (pc + 3) ls rest)) : W p l e R s m args below meth c H locs cells slots Q (F0 m pc ls (v :: .ref a :: rest)) := by
  subst hv9
  exact va_put (D := D) (ci := 0) (ty := .int) (C := RX0) (T := TX0) (N := 9) S.1 S.2.1 S.2.2.2.2 iwX0 tyX0 tyX0_ok nmX0 S.2.2.2.1 hK hP hD hS q0 he rfl 4 (by decide) (S.2.2.2.2 _ tb201) (fun _ h9 => h9) rfl (by decide +kernel) rfl rfl hle hdg kk
theorem gf_X6_248 {p : Program} {l : Launch} {e : Env} {R : Room} {s : State} {m : MethodId} {args : Array Value} {below : List Frame} {meth : Method} {c : Code} {H : Heap} {locs : List Loc} {cells slots : Nat} {Q : State → Prop} {cc : ByteArray} {pc nL : Nat} {ls : Array Slot} {rest : List Value} {D : va_G} {ws : va_W} {tys : List (ClassId × FieldType)} (S : CallFix p m c cc nL s args TB RX6) (hK : va_K D vwCl tys s) (hP : va_P D vwCl ws H) (q0 : Nat) {a : Nat} {fs : List Value} (he : ws[q0]? = some (a, .inr (0, fs))) {v : Value} (hv : fs[7]? = some v) (hdg : decode cc pc = .ok (.getfield 248, 3))
    (kk : W p l e R s m args below meth c H locs cells slots Q (F0 m (pc + 3) ls (v :: rest))) : W p l e R s m args below meth c H locs cells slots Q (F0 m pc ls (.ref a :: rest)) :=
  va_get (D := D) (ci := 0) (C := RX0) (T := TX0) (N := 9) S.1 S.2.1 S.2.2.2.2 iwX0 S.2.2.2.1 hK hP q0 he rfl 7 (by decide) (S.2.2.2.2 _ tb207) (fun _ h9 => h9) hv hdg kk
theorem pf_X6_248 {p : Program} {l : Launch} {e : Env} {R : Room} {s : State} {m : MethodId} {args : Array Value} {below : List Frame} {meth : Method} {c : Code} {H H0 : Heap} {locs : List Loc} {cells slots : Nat} {Q : State → Prop} {cc : ByteArray} {pc nL : Nat} {ls : Array Slot} {rest : List Value} {D : va_G} {ws : va_W} {tys : List (ClassId × FieldType)} {A : Nat → Prop} {x9 : Int64} {v : Value} (S : CallFix p m c cc nL s args TB RX6) (hK : va_K D vwCl tys s) (hP : va_P D vwCl ws H) (hD : va_D A ws) (hS : va_S A H0 H locs) (q0 : Nat) {a : Nat} {fs : List Value} (he : ws[q0]? = some (a, .inr (0, fs))) (hle : 7 < fs.length) (hv9 : v = .long x9) (hdg : decode cc pc = .ok (.putfield 248, 3))
    (kk : ∀ (H1 : Heap) (locs1 : List Loc), va_P D vwCl (ws.set q0 (a, .inr (0, fs.set 7 v))) H1 → va_D A (ws.set q0 (a, .inr (0, fs.set 7 v))) → va_S A H0 H1 locs1 → W p l e R s m args below meth c H1 locs1 cells slots Q (F0 m (pc + 3) ls rest)) : W p l e R s m args below meth c H locs cells slots Q (F0 m pc ls (v :: .ref a :: rest)) := by
  subst hv9
  exact va_put (D := D) (ci := 0) (ty := .long) (C := RX0) (T := TX0) (N := 9) S.1 S.2.1 S.2.2.2.2 iwX0 tyX0 tyX0_ok nmX0 S.2.2.2.1 hK hP hD hS q0 he rfl 7 (by decide) (S.2.2.2.2 _ tb207) (fun _ h9 => h9) rfl (by decide +kernel) rfl rfl hle hdg kk
def f_X6_abandonIfSlow_b45 (v0_time : Int32) (r4 r6 : Nat → Int32) : Nat → Int32 → Int32 → Int32 → Int64 → Int32 → Int32 → Int32 → Int32 → Int32 → Int32 → Int64 → Int64 → Int64 → Int32 → Int32 × Int32 × Int32 × Int64 × Int32 × Int32 × Int32 × Int32 × Int32 × Int32 × Int64 × Int64
  | 0, _, _, _, _, _, _, _, _, _, _, _, _, _, _ => (0, 0, 0, 0, 0, 0, 0, 0, 0, 0, 0, 0)
  | n + 1, v0_lastRung, v0_lastChange, v1_abandoned, v1_wasted, v2_going, v2_track, v2_segment, v2_rung, v2_waiting, v2_duration, v2_bits, v2_received, l1, l3 =>
    if l3 < 0 then
      (v0_lastRung, v0_lastChange, v1_abandoned, v1_wasted, v2_going, v2_track, v2_segment, v2_rung, v2_waiting, v2_duration, v2_bits, v2_received)
    else
      bnd (f_X1_timeFor v2_duration v2_received (f_X8_bitsOf_0 r4 r6 0 l3 v2_segment)) fun (z2 : Int64) =>
      if l1 ≤ z2 then
        f_X6_abandonIfSlow_b45 v0_time r4 r6 n v0_lastRung v0_lastChange v1_abandoned v1_wasted v2_going v2_track v2_segment v2_rung v2_waiting v2_duration v2_bits v2_received l1 (l3 + (-1))
      else
        bnd10 (f_X6_beginDownload_0 v0_lastRung v0_lastChange v0_time r4 r6 0 v2_segment l3) fun (y4 : Int32) (y5 : Int32) (y6 : Int32) (y7 : Int32) (y8 : Int32) (y9 : Int32) (y10 : Int32) (y11 : Int32) (z12 : Int64) (z13 : Int64) =>
        (y4, y5, v1_abandoned + 1, v1_wasted + v2_received, y6, y7, y8, y9, y10, y11, z12, z13)
def f_X6_abandonIfSlow (v0_lastRung v0_lastChange v0_time v0_position v1_abandoned : Int32) (v1_wasted : Int64) (v2_going v2_track v2_segment v2_rung v2_waiting v2_duration : Int32) (v2_bits v2_received : Int64) (r4 : Nat → Int32) (v5_rungs : Int32) (r6 : Nat → Int32) (v7_segments : Int32) : Int32 × Int32 × Int32 × Int64 × Int32 × Int32 × Int32 × Int32 × Int32 × Int32 × Int64 × Int64 :=
  bnd (f_X1_timeFor v2_duration v2_received (v2_bits - v2_received)) fun (z1 : Int64) =>
  if ((f_X6_bufferOf_0 v0_position r4 v5_rungs v7_segments).toInt64) < z1 then
    f_X6_abandonIfSlow_b45 v0_time r4 r6 ((((v2_rung - 1).toInt + 1).toNat) + 1) v0_lastRung v0_lastChange v1_abandoned v1_wasted v2_going v2_track v2_segment v2_rung v2_waiting v2_duration v2_bits v2_received z1 (v2_rung - 1)
  else
    (v0_lastRung, v0_lastChange, v1_abandoned, v1_wasted, v2_going, v2_track, v2_segment, v2_rung, v2_waiting, v2_duration, v2_bits, v2_received)
set_option maxHeartbeats 4000000 in
set_option maxRecDepth 100000 in
theorem k_X6_abandonIfSlow_b45 {p : Program} {l : Launch} {e : Env} {s : State} {m : MethodId} {args : Array Value} {below : List Frame} {meth : Method} {c : Code} {D : va_G} {cI cJ cC : ClassId} {h0 h1 h2 h3 h4 h5 h6 h7 kthis_audio kthis_samples kthis_line kthis_stream_audio kthis_stream_plan kthis_video_rungs : Nat} {v0_mode v0_startThreshold v0_state v0_time v0_position v1_startUpTime v1_stallTime v1_playTime v1_stalls v1_finished v1_switches : Int32} {v1_quality : Int64} {r4 : Nat → Int32} {v5_most v5_rungs : Int32} {r6 : Nat → Int32} {v7_segments : Int32} {T : Int32 × Int32 × Int32 × Int64 × Int32 × Int32 × Int32 × Int32 × Int32 × Int32 × Int64 × Int64}{A : Nat → Prop} (S : CallFix p m c cX6_abandonIfSlow 6 s args TB RX6) (hr : meth.sig.returnType = none) (hlk : meth.locks = false) (hK : va_K D vwCl (ty3 cI cJ cC) s) (hA : ∀ q : Nat, s.heap.size ≤ q → A q) : ∀ (n : Nat) (v0_lastRung v0_lastChange v1_abandoned : Int32) (v1_wasted : Int64) (v2_going v2_track v2_segment v2_rung v2_waiting v2_duration : Int32) (v2_bits v2_received l1 : Int64) (l3 : Int32) (H : Heap) (locs : List Loc) (ls : Array Slot), (l3.toInt + 1).toNat < n → f_X6_abandonIfSlow_b45 v0_time r4 r6 n v0_lastRung v0_lastChange v1_abandoned v1_wasted v2_going v2_track v2_segment v2_rung v2_waiting v2_duration v2_bits v2_received l1 l3 = T → va_P D vwCl [(h0, .inr (6, [.ref h3, .ref h7, .ref kthis_audio, .ref kthis_samples, .ref h2, .ref h1, .ref kthis_line, .int v0_mode, .int v0_startThreshold, .int v0_lastRung, .int v0_lastChange, .int v0_state, .int v0_time, .int v0_position])), (h1, .inr (0, [.int v1_startUpTime, .int v1_stallTime, .int v1_playTime, .int v1_stalls, .int v1_abandoned, .int v1_finished, .int v1_switches, .long v1_wasted, .long v1_quality])), (h2, .inr (1, [.int v2_going, .int v2_track, .int v2_segment, .int v2_rung, .int v2_waiting, .int v2_duration, .long v2_bits, .long v2_received])), (h3, .inr (8, [.ref h4, .ref h5, .ref kthis_stream_audio, .ref kthis_stream_plan])), (h4, .inl (cI, 15, .inl r4)), (h5, .inr (2, [.ref h6, .int v5_most, .int v5_rungs])), (h6, .inl (cI, 6, .inl r6)), (h7, .inr (7, [.ref kthis_video_rungs, .int v7_segments]))] H → va_D A [(h0, .inr (6, [.ref h3, .ref h7, .ref kthis_audio, .ref kthis_samples, .ref h2, .ref h1, .ref kthis_line, .int v0_mode, .int v0_startThreshold, .int v0_lastRung, .int v0_lastChange, .int v0_state, .int v0_time, .int v0_position])), (h1, .inr (0, [.int v1_startUpTime, .int v1_stallTime, .int v1_playTime, .int v1_stalls, .int v1_abandoned, .int v1_finished, .int v1_switches, .long v1_wasted, .long v1_quality])), (h2, .inr (1, [.int v2_going, .int v2_track, .int v2_segment, .int v2_rung, .int v2_waiting, .int v2_duration, .long v2_bits, .long v2_received])), (h3, .inr (8, [.ref h4, .ref h5, .ref kthis_stream_audio, .ref kthis_stream_plan])), (h4, .inl (cI, 15, .inl r4)), (h5, .inr (2, [.ref h6, .int v5_most, .int v5_rungs])), (h6, .inl (cI, 6, .inl r6)), (h7, .inr (7, [.ref kthis_video_rungs, .int v7_segments]))] → va_S A s.heap H locs → lv_has ls 6 [(0, .ref h0), (1, .long l1), (3, .int l3)] → W p l e rm_X6_abandonIfSlow s m args below meth c H locs 0 0 (MQ below (QW none D [(h0, .inr (6, [.ref h3, .ref h7, .ref kthis_audio, .ref kthis_samples, .ref h2, .ref h1, .ref kthis_line, .int v0_mode, .int v0_startThreshold, .int T.1, .int T.2.1, .int v0_state, .int v0_time, .int v0_position])), (h1, .inr (0, [.int v1_startUpTime, .int v1_stallTime, .int v1_playTime, .int v1_stalls, .int T.2.2.1, .int v1_finished, .int v1_switches, .long T.2.2.2.1, .long v1_quality])), (h2, .inr (1, [.int T.2.2.2.2.1, .int T.2.2.2.2.2.1, .int T.2.2.2.2.2.2.1, .int T.2.2.2.2.2.2.2.1, .int T.2.2.2.2.2.2.2.2.1, .int T.2.2.2.2.2.2.2.2.2.1, .long T.2.2.2.2.2.2.2.2.2.2.1, .long T.2.2.2.2.2.2.2.2.2.2.2])), (h3, .inr (8, [.ref h4, .ref h5, .ref kthis_stream_audio, .ref kthis_stream_plan])), (h4, .inl (cI, 15, .inl r4)), (h5, .inr (2, [.ref h6, .int v5_most, .int v5_rungs])), (h6, .inl (cI, 6, .inl r6)), (h7, .inr (7, [.ref kthis_video_rungs, .int v7_segments]))] A) args s 0 0 A) (F0 m 45 ls []) := by
  have hx := S.1
  have hb := S.2.1
  intro n
  induction n with
  | zero => intro v0_lastRung v0_lastChange v1_abandoned v1_wasted v2_going v2_track v2_segment v2_rung v2_waiting v2_duration v2_bits v2_received l1 l3 H locs ls  hmu; exact absurd hmu (Nat.not_lt_zero _)
  | succ n ih =>
    intro v0_lastRung v0_lastChange v1_abandoned v1_wasted v2_going v2_track v2_segment v2_rung v2_waiting v2_duration v2_bits v2_received l1 l3 H locs ls  hmu h hP hD hS hl
    refine lv_iload_n hx hb dX6_abandonIfSlow_45 rfl (lv_at hl 2 rfl) ?_
    refine lv_if_lt (tgt := 133) hx hb dX6_abandonIfSlow_46 (by decide) (fun c1 => ?_) (fun c1 => ?_)
    · have h := iteP c1 h
      subst h
      exact wRv S hr hlk (hP.sub [0, 1, 2, 3, 4, 5, 6, 7] rfl) (hD.sub [0, 1, 2, 3, 4, 5, 6, 7] (by decide) rfl) hS dX6_abandonIfSlow_133
    · have h := iteN c1 h
      refine lv_aload_n hx hb dX6_abandonIfSlow_49 rfl (lv_at hl 0 rfl) ?_
      refine gf_X6_31 (v := .ref h2) S hK hP 0 rfl rfl dX6_abandonIfSlow_50 ?_
      refine lv_aload_n hx hb dX6_abandonIfSlow_53 rfl (lv_at hl 0 rfl) ?_
      refine gf_X6_53 (v := .ref h3) S hK hP 0 rfl rfl dX6_abandonIfSlow_54 ?_
      refine lv_iconst (v := 0) hx hb dX6_abandonIfSlow_57 li_0 ?_
      refine lv_iload_n hx hb dX6_abandonIfSlow_58 rfl (lv_at hl 2 rfl) ?_
      refine lv_aload_n hx hb dX6_abandonIfSlow_59 rfl (lv_at hl 0 rfl) ?_
      refine gf_X6_31 (v := .ref h2) S hK hP 0 rfl rfl dX6_abandonIfSlow_60 ?_
      refine gf_X6_189 (v := .int v2_segment) S hK hP 2 rfl rfl dX6_abandonIfSlow_63 ?_
      refine rdV (pc1 := 69) (rest := [.ref h2]) (st1 := [.long (f_X8_bitsOf_0 r4 r6 0 l3 v2_segment), .ref h2]) S (c_X8_bitsOf_0 l D cI cJ cC h3 h4 h5 h6 kthis_stream_audio kthis_stream_plan r4 v5_most v5_rungs r6 0 l3 v2_segment rfl _ rfl) (cw_X6_201 S.2.2.2.2 ⟨Nat.le_of_ble_eq_true rfl, Nat.le_of_ble_eq_true rfl⟩) hK (hP.sub [3, 4, 5, 6] rfl) rfl rfl rfl rfl hl.1 rfl (Nat.le_of_ble_eq_true rfl) ⟨Nat.zero_le _, Nat.zero_le _⟩ rfl rfl dX6_abandonIfSlow_66 ?_
      refine rdV (pc1 := 72) (rest := []) (st1 := [.long (f_X1_timeFor v2_duration v2_received (f_X8_bitsOf_0 r4 r6 0 l3 v2_segment))]) S (c_X1_timeFor l D cI cJ cC h2 v2_going v2_track v2_segment v2_rung v2_waiting v2_duration v2_bits v2_received (f_X8_bitsOf_0 r4 r6 0 l3 v2_segment) _ rfl) (cw_X6_241 S.2.2.2.2 ⟨Nat.le_of_ble_eq_true rfl, Nat.le_of_ble_eq_true rfl⟩) hK (hP.sub [2] rfl) rfl rfl rfl rfl hl.1 rfl (Nat.le_of_ble_eq_true rfl) ⟨Nat.zero_le _, Nat.zero_le _⟩ rfl rfl dX6_abandonIfSlow_69 ?_
      refine lv_topl (fun z2 e_z2 => ?_)
      have h := bnd_eq e_z2.symm h
      refine lv_lstore (lv' := [(4, .long z2), (0, .ref h0), (1, .long l1), (3, .int l3)]) hx hb dX6_abandonIfSlow_72 hl (by decide) rfl (fun ls hl => ?_)
      refine lv_lload hx hb dX6_abandonIfSlow_74 (lv_at hl 0 rfl) ?_
      refine lv_lload_n hx hb dX6_abandonIfSlow_76 rfl (lv_at hl 2 rfl) ?_
      refine lc_ge (tgt := 127) hx hb dX6_abandonIfSlow_77 dX6_abandonIfSlow_78 (by decide) (fun c3 => ?_) (fun c3 => ?_)
      · have h := iteP c3 h
        refine lv_iinc (v := l3 + (-1)) (lv' := [(3, .int (l3 + (-1))), (4, .long z2), (0, .ref h0), (1, .long l1)]) hx hb dX6_abandonIfSlow_127 hl (k := 3) rfl rfl (by decide) rfl (fun ls hl => ?_)
        refine lv_goto (tgt := 45) hx hb dX6_abandonIfSlow_130 (by decide) ?_
        exact ih v0_lastRung v0_lastChange v1_abandoned v1_wasted v2_going v2_track v2_segment v2_rung v2_waiting v2_duration v2_bits v2_received l1 (l3 + (-1)) _ _ _ (by first | exact mu_dnA (by assumption) hmu | exact mu_dnB (by assumption) hmu | exact mu_dnC (by assumption) hmu | exact mu_dnD (by assumption) hmu) h (hP.sub [0, 1, 2, 3, 4, 5, 6, 7] rfl) (hD.sub [0, 1, 2, 3, 4, 5, 6, 7] (by decide) rfl) hS (lv_sub hl [2, 3, 0] rfl)
      · have h := iteN c3 h
        refine lv_aload_n hx hb dX6_abandonIfSlow_81 rfl (lv_at hl 1 rfl) ?_
        refine gf_X6_38 (v := .ref h1) S hK hP 0 rfl rfl dX6_abandonIfSlow_82 ?_
        refine lv_dup hx hb dX6_abandonIfSlow_85 rfl ?_
        refine gf_X6_245 (v := .int v1_abandoned) S hK hP 1 rfl rfl dX6_abandonIfSlow_86 ?_
        refine lv_iconst (v := 1) hx hb dX6_abandonIfSlow_89 li_1 ?_
        refine lv_iadd hx hb dX6_abandonIfSlow_90 ?_
        refine pf_X6_245 (v := .int (v1_abandoned + 1)) S hK hP hD hS 1 rfl (Nat.le_of_ble_eq_true rfl) rfl dX6_abandonIfSlow_91 (fun H locs hP hD hS => ?_)
        have hP : va_P D vwCl [(h0, .inr (6, [.ref h3, .ref h7, .ref kthis_audio, .ref kthis_samples, .ref h2, .ref h1, .ref kthis_line, .int v0_mode, .int v0_startThreshold, .int v0_lastRung, .int v0_lastChange, .int v0_state, .int v0_time, .int v0_position])), (h1, .inr (0, [.int v1_startUpTime, .int v1_stallTime, .int v1_playTime, .int v1_stalls, .int (v1_abandoned + 1), .int v1_finished, .int v1_switches, .long v1_wasted, .long v1_quality])), (h2, .inr (1, [.int v2_going, .int v2_track, .int v2_segment, .int v2_rung, .int v2_waiting, .int v2_duration, .long v2_bits, .long v2_received])), (h3, .inr (8, [.ref h4, .ref h5, .ref kthis_stream_audio, .ref kthis_stream_plan])), (h4, .inl (cI, 15, .inl r4)), (h5, .inr (2, [.ref h6, .int v5_most, .int v5_rungs])), (h6, .inl (cI, 6, .inl r6)), (h7, .inr (7, [.ref kthis_video_rungs, .int v7_segments]))] H := hP
        have hD : va_D A [(h0, .inr (6, [.ref h3, .ref h7, .ref kthis_audio, .ref kthis_samples, .ref h2, .ref h1, .ref kthis_line, .int v0_mode, .int v0_startThreshold, .int v0_lastRung, .int v0_lastChange, .int v0_state, .int v0_time, .int v0_position])), (h1, .inr (0, [.int v1_startUpTime, .int v1_stallTime, .int v1_playTime, .int v1_stalls, .int (v1_abandoned + 1), .int v1_finished, .int v1_switches, .long v1_wasted, .long v1_quality])), (h2, .inr (1, [.int v2_going, .int v2_track, .int v2_segment, .int v2_rung, .int v2_waiting, .int v2_duration, .long v2_bits, .long v2_received])), (h3, .inr (8, [.ref h4, .ref h5, .ref kthis_stream_audio, .ref kthis_stream_plan])), (h4, .inl (cI, 15, .inl r4)), (h5, .inr (2, [.ref h6, .int v5_most, .int v5_rungs])), (h6, .inl (cI, 6, .inl r6)), (h7, .inr (7, [.ref kthis_video_rungs, .int v7_segments]))] := hD
        refine lv_aload_n hx hb dX6_abandonIfSlow_94 rfl (lv_at hl 1 rfl) ?_
        refine gf_X6_38 (v := .ref h1) S hK hP 0 rfl rfl dX6_abandonIfSlow_95 ?_
        refine lv_dup hx hb dX6_abandonIfSlow_98 rfl ?_
        refine gf_X6_248 (v := .long v1_wasted) S hK hP 1 rfl rfl dX6_abandonIfSlow_99 ?_
        refine lv_aload_n hx hb dX6_abandonIfSlow_102 rfl (lv_at hl 1 rfl) ?_
        refine gf_X6_31 (v := .ref h2) S hK hP 0 rfl rfl dX6_abandonIfSlow_103 ?_
        refine gf_X6_209 (v := .long v2_received) S hK hP 2 rfl rfl dX6_abandonIfSlow_106 ?_
        refine lv_ladd hx hb dX6_abandonIfSlow_109 ?_
        refine pf_X6_248 (v := .long (v1_wasted + v2_received)) S hK hP hD hS 1 rfl (Nat.le_of_ble_eq_true rfl) rfl dX6_abandonIfSlow_110 (fun H locs hP hD hS => ?_)
        have hP : va_P D vwCl [(h0, .inr (6, [.ref h3, .ref h7, .ref kthis_audio, .ref kthis_samples, .ref h2, .ref h1, .ref kthis_line, .int v0_mode, .int v0_startThreshold, .int v0_lastRung, .int v0_lastChange, .int v0_state, .int v0_time, .int v0_position])), (h1, .inr (0, [.int v1_startUpTime, .int v1_stallTime, .int v1_playTime, .int v1_stalls, .int (v1_abandoned + 1), .int v1_finished, .int v1_switches, .long (v1_wasted + v2_received), .long v1_quality])), (h2, .inr (1, [.int v2_going, .int v2_track, .int v2_segment, .int v2_rung, .int v2_waiting, .int v2_duration, .long v2_bits, .long v2_received])), (h3, .inr (8, [.ref h4, .ref h5, .ref kthis_stream_audio, .ref kthis_stream_plan])), (h4, .inl (cI, 15, .inl r4)), (h5, .inr (2, [.ref h6, .int v5_most, .int v5_rungs])), (h6, .inl (cI, 6, .inl r6)), (h7, .inr (7, [.ref kthis_video_rungs, .int v7_segments]))] H := hP
        have hD : va_D A [(h0, .inr (6, [.ref h3, .ref h7, .ref kthis_audio, .ref kthis_samples, .ref h2, .ref h1, .ref kthis_line, .int v0_mode, .int v0_startThreshold, .int v0_lastRung, .int v0_lastChange, .int v0_state, .int v0_time, .int v0_position])), (h1, .inr (0, [.int v1_startUpTime, .int v1_stallTime, .int v1_playTime, .int v1_stalls, .int (v1_abandoned + 1), .int v1_finished, .int v1_switches, .long (v1_wasted + v2_received), .long v1_quality])), (h2, .inr (1, [.int v2_going, .int v2_track, .int v2_segment, .int v2_rung, .int v2_waiting, .int v2_duration, .long v2_bits, .long v2_received])), (h3, .inr (8, [.ref h4, .ref h5, .ref kthis_stream_audio, .ref kthis_stream_plan])), (h4, .inl (cI, 15, .inl r4)), (h5, .inr (2, [.ref h6, .int v5_most, .int v5_rungs])), (h6, .inl (cI, 6, .inl r6)), (h7, .inr (7, [.ref kthis_video_rungs, .int v7_segments]))] := hD
        refine lv_aload_n hx hb dX6_abandonIfSlow_113 rfl (lv_at hl 1 rfl) ?_
        refine lv_iconst (v := 0) hx hb dX6_abandonIfSlow_114 li_0 ?_
        refine lv_aload_n hx hb dX6_abandonIfSlow_115 rfl (lv_at hl 1 rfl) ?_
        refine gf_X6_31 (v := .ref h2) S hK hP 0 rfl rfl dX6_abandonIfSlow_116 ?_
        refine gf_X6_189 (v := .int v2_segment) S hK hP 2 rfl rfl dX6_abandonIfSlow_119 ?_
        refine lv_iload_n hx hb dX6_abandonIfSlow_122 rfl (lv_at hl 3 rfl) ?_
        obtain ⟨y4, y5, y6, y7, y8, y9, y10, y11, z12, z13, e_y4⟩ : ∃ a0 a1 a2 a3 a4 a5 a6 a7 a8 a9, f_X6_beginDownload_0 v0_lastRung v0_lastChange v0_time r4 r6 0 v2_segment l3 = (a0, a1, a2, a3, a4, a5, a6, a7, a8, a9) := ⟨_, _, _, _, _, _, _, _, _, _, rfl⟩
        have h := bnd10_eq e_y4 h
        refine wrV (pc1 := 126) (rest := []) (st1 := []) (wr := [(h1, .inr (0, [.int v1_startUpTime, .int v1_stallTime, .int v1_playTime, .int v1_stalls, .int (v1_abandoned + 1), .int v1_finished, .int v1_switches, .long (v1_wasted + v2_received), .long v1_quality])), (h7, .inr (7, [.ref kthis_video_rungs, .int v7_segments]))]) S (c_X6_beginDownload_0 l D cI cJ cC h0 h2 h3 h4 h5 h6 h7 kthis_audio kthis_samples h1 kthis_line kthis_stream_audio kthis_stream_plan v0_mode v0_startThreshold v0_lastRung v0_lastChange v0_state v0_time v0_position v2_going v2_track v2_segment v2_rung v2_waiting v2_duration v2_bits v2_received r4 v5_most v5_rungs r6 H.size 0 v2_segment l3 rfl (y4, y5, y6, y7, y8, y9, y10, y11, z12, z13) e_y4) (cw_X6_152 S.2.2.2.2 ⟨Nat.le_of_ble_eq_true rfl, Nat.le_of_ble_eq_true rfl⟩) hK hP hD hS hA [0, 2, 3, 4, 5, 6] [1, 7] rfl rfl rfl (by decide) (by decide) (by decide) rfl rfl rfl rfl hl.1 rfl (Nat.le_of_ble_eq_true rfl) ⟨Nat.zero_le _, Nat.zero_le _⟩ rfl rfl dX6_abandonIfSlow_123 (fun H locs hP hD hS => ?_)
        have hP : va_P D vwCl [(h1, .inr (0, [.int v1_startUpTime, .int v1_stallTime, .int v1_playTime, .int v1_stalls, .int (v1_abandoned + 1), .int v1_finished, .int v1_switches, .long (v1_wasted + v2_received), .long v1_quality])), (h7, .inr (7, [.ref kthis_video_rungs, .int v7_segments])), (h0, .inr (6, [.ref h3, .ref h7, .ref kthis_audio, .ref kthis_samples, .ref h2, .ref h1, .ref kthis_line, .int v0_mode, .int v0_startThreshold, .int y4, .int y5, .int v0_state, .int v0_time, .int v0_position])), (h2, .inr (1, [.int y6, .int y7, .int y8, .int y9, .int y10, .int y11, .long z12, .long z13])), (h3, .inr (8, [.ref h4, .ref h5, .ref kthis_stream_audio, .ref kthis_stream_plan])), (h4, .inl (cI, 15, .inl r4)), (h5, .inr (2, [.ref h6, .int v5_most, .int v5_rungs])), (h6, .inl (cI, 6, .inl r6))] H := hP
        have hD : va_D A [(h1, .inr (0, [.int v1_startUpTime, .int v1_stallTime, .int v1_playTime, .int v1_stalls, .int (v1_abandoned + 1), .int v1_finished, .int v1_switches, .long (v1_wasted + v2_received), .long v1_quality])), (h7, .inr (7, [.ref kthis_video_rungs, .int v7_segments])), (h0, .inr (6, [.ref h3, .ref h7, .ref kthis_audio, .ref kthis_samples, .ref h2, .ref h1, .ref kthis_line, .int v0_mode, .int v0_startThreshold, .int y4, .int y5, .int v0_state, .int v0_time, .int v0_position])), (h2, .inr (1, [.int y6, .int y7, .int y8, .int y9, .int y10, .int y11, .long z12, .long z13])), (h3, .inr (8, [.ref h4, .ref h5, .ref kthis_stream_audio, .ref kthis_stream_plan])), (h4, .inl (cI, 15, .inl r4)), (h5, .inr (2, [.ref h6, .int v5_most, .int v5_rungs])), (h6, .inl (cI, 6, .inl r6))] := hD
        subst h
        exact wRv S hr hlk (hP.sub [2, 0, 3, 4, 5, 6, 7, 1] rfl) (hD.sub [2, 0, 3, 4, 5, 6, 7, 1] (by decide) rfl) hS dX6_abandonIfSlow_126
set_option maxHeartbeats 4000000 in
set_option maxRecDepth 100000 in
theorem c_X6_abandonIfSlow (l : Launch) (D : va_G) (cI cJ cC : ClassId) (h0 h1 h2 h3 h4 h5 h6 h7 kthis_audio kthis_samples kthis_line kthis_stream_audio kthis_stream_plan kthis_video_rungs : Nat) (v0_mode v0_startThreshold v0_lastRung v0_lastChange v0_state v0_time v0_position v1_startUpTime v1_stallTime v1_playTime v1_stalls v1_abandoned v1_finished v1_switches : Int32) (v1_wasted v1_quality : Int64) (v2_going v2_track v2_segment v2_rung v2_waiting v2_duration : Int32) (v2_bits v2_received : Int64) (r4 : Nat → Int32) (v5_most v5_rungs : Int32) (r6 : Nat → Int32) (v7_segments : Int32) (sz : Nat)  (T : Int32 × Int32 × Int32 × Int64 × Int32 × Int32 × Int32 × Int32 × Int32 × Int32 × Int64 × Int64) (h : f_X6_abandonIfSlow v0_lastRung v0_lastChange v0_time v0_position v1_abandoned v1_wasted v2_going v2_track v2_segment v2_rung v2_waiting v2_duration v2_bits v2_received r4 v5_rungs r6 v7_segments = T) : Met l yX6_abandonIfSlow (Cond.code yX6_abandonIfSlow cX6_abandonIfSlow 6 none :: TB) rm_X6_abandonIfSlow (PreW D cI cJ cC [(h0, .inr (6, [.ref h3, .ref h7, .ref kthis_audio, .ref kthis_samples, .ref h2, .ref h1, .ref kthis_line, .int v0_mode, .int v0_startThreshold, .int v0_lastRung, .int v0_lastChange, .int v0_state, .int v0_time, .int v0_position])), (h1, .inr (0, [.int v1_startUpTime, .int v1_stallTime, .int v1_playTime, .int v1_stalls, .int v1_abandoned, .int v1_finished, .int v1_switches, .long v1_wasted, .long v1_quality])), (h2, .inr (1, [.int v2_going, .int v2_track, .int v2_segment, .int v2_rung, .int v2_waiting, .int v2_duration, .long v2_bits, .long v2_received])), (h3, .inr (8, [.ref h4, .ref h5, .ref kthis_stream_audio, .ref kthis_stream_plan])), (h4, .inl (cI, 15, .inl r4)), (h5, .inr (2, [.ref h6, .int v5_most, .int v5_rungs])), (h6, .inl (cI, 6, .inl r6)), (h7, .inr (7, [.ref kthis_video_rungs, .int v7_segments]))] sz [.ref h0]) (QW none D [(h0, .inr (6, [.ref h3, .ref h7, .ref kthis_audio, .ref kthis_samples, .ref h2, .ref h1, .ref kthis_line, .int v0_mode, .int v0_startThreshold, .int T.1, .int T.2.1, .int v0_state, .int v0_time, .int v0_position])), (h1, .inr (0, [.int v1_startUpTime, .int v1_stallTime, .int v1_playTime, .int v1_stalls, .int T.2.2.1, .int v1_finished, .int v1_switches, .long T.2.2.2.1, .long v1_quality])), (h2, .inr (1, [.int T.2.2.2.2.1, .int T.2.2.2.2.2.1, .int T.2.2.2.2.2.2.1, .int T.2.2.2.2.2.2.2.1, .int T.2.2.2.2.2.2.2.2.1, .int T.2.2.2.2.2.2.2.2.2.1, .long T.2.2.2.2.2.2.2.2.2.2.1, .long T.2.2.2.2.2.2.2.2.2.2.2])), (h3, .inr (8, [.ref h4, .ref h5, .ref kthis_stream_audio, .ref kthis_stream_plan])), (h4, .inl (cI, 15, .inl r4)), (h5, .inr (2, [.ref h6, .int v5_most, .int v5_rungs])), (h6, .inl (cI, 6, .inl r6)), (h7, .inr (7, [.ref kthis_video_rungs, .int v7_segments]))] (va_A [(h0, .inr (6, [.ref h3, .ref h7, .ref kthis_audio, .ref kthis_samples, .ref h2, .ref h1, .ref kthis_line, .int v0_mode, .int v0_startThreshold, .int v0_lastRung, .int v0_lastChange, .int v0_state, .int v0_time, .int v0_position])), (h1, .inr (0, [.int v1_startUpTime, .int v1_stallTime, .int v1_playTime, .int v1_stalls, .int v1_abandoned, .int v1_finished, .int v1_switches, .long v1_wasted, .long v1_quality])), (h2, .inr (1, [.int v2_going, .int v2_track, .int v2_segment, .int v2_rung, .int v2_waiting, .int v2_duration, .long v2_bits, .long v2_received])), (h3, .inr (8, [.ref h4, .ref h5, .ref kthis_stream_audio, .ref kthis_stream_plan])), (h4, .inl (cI, 15, .inl r4)), (h5, .inr (2, [.ref h6, .int v5_most, .int v5_rungs])), (h6, .inl (cI, 6, .inl r6)), (h7, .inr (7, [.ref kthis_video_rungs, .int v7_segments]))] sz)) 0 0 (va_A [(h0, .inr (6, [.ref h3, .ref h7, .ref kthis_audio, .ref kthis_samples, .ref h2, .ref h1, .ref kthis_line, .int v0_mode, .int v0_startThreshold, .int v0_lastRung, .int v0_lastChange, .int v0_state, .int v0_time, .int v0_position])), (h1, .inr (0, [.int v1_startUpTime, .int v1_stallTime, .int v1_playTime, .int v1_stalls, .int v1_abandoned, .int v1_finished, .int v1_switches, .long v1_wasted, .long v1_quality])), (h2, .inr (1, [.int v2_going, .int v2_track, .int v2_segment, .int v2_rung, .int v2_waiting, .int v2_duration, .long v2_bits, .long v2_received])), (h3, .inr (8, [.ref h4, .ref h5, .ref kthis_stream_audio, .ref kthis_stream_plan])), (h4, .inl (cI, 15, .inl r4)), (h5, .inr (2, [.ref h6, .int v5_most, .int v5_rungs])), (h6, .inl (cI, 6, .inl r6)), (h7, .inr (7, [.ref kthis_video_rungs, .int v7_segments]))] sz) := by
  refine metW (own := RX6) (by decide) rfl (Nat.le_of_ble_eq_true rfl) ?_
  intro p e s m below meth c S hr hlk hP hK A hAe hD hA hS ls hl
  clear hAe
  have hx := S.1
  have hb := S.2.1
  have hl : lv_has ls 6 [(0, .ref h0)] := hl
  refine lv_aload_n hx hb dX6_abandonIfSlow_0 rfl (lv_at hl 0 rfl) ?_
  refine gf_X6_31 (v := .ref h2) S hK hP 0 rfl rfl dX6_abandonIfSlow_1 ?_
  refine lv_aload_n hx hb dX6_abandonIfSlow_4 rfl (lv_at hl 0 rfl) ?_
  refine gf_X6_31 (v := .ref h2) S hK hP 0 rfl rfl dX6_abandonIfSlow_5 ?_
  refine gf_X6_205 (v := .long v2_bits) S hK hP 2 rfl rfl dX6_abandonIfSlow_8 ?_
  refine lv_aload_n hx hb dX6_abandonIfSlow_11 rfl (lv_at hl 0 rfl) ?_
  refine gf_X6_31 (v := .ref h2) S hK hP 0 rfl rfl dX6_abandonIfSlow_12 ?_
  refine gf_X6_209 (v := .long v2_received) S hK hP 2 rfl rfl dX6_abandonIfSlow_15 ?_
  refine lv_lsub hx hb dX6_abandonIfSlow_18 ?_
  refine rdV (pc1 := 22) (rest := []) (st1 := [.long (f_X1_timeFor v2_duration v2_received (v2_bits - v2_received))]) S (c_X1_timeFor l D cI cJ cC h2 v2_going v2_track v2_segment v2_rung v2_waiting v2_duration v2_bits v2_received (v2_bits - v2_received) _ rfl) (cw_X6_241 S.2.2.2.2 ⟨Nat.le_of_ble_eq_true rfl, Nat.le_of_ble_eq_true rfl⟩) hK (hP.sub [2] rfl) rfl rfl rfl rfl hl.1 rfl (Nat.le_of_ble_eq_true rfl) ⟨Nat.zero_le _, Nat.zero_le _⟩ rfl rfl dX6_abandonIfSlow_19 ?_
  refine lv_topl (fun z1 e_z1 => ?_)
  have h := bnd_eq e_z1.symm h
  refine lv_lstore_n (lv' := [(1, .long z1), (0, .ref h0)]) hx hb dX6_abandonIfSlow_22 rfl hl (by decide) rfl (fun ls hl => ?_)
  refine lv_lload_n hx hb dX6_abandonIfSlow_23 rfl (lv_at hl 0 rfl) ?_
  refine lv_aload_n hx hb dX6_abandonIfSlow_24 rfl (lv_at hl 1 rfl) ?_
  refine lv_iconst (v := 0) hx hb dX6_abandonIfSlow_25 li_0 ?_
  refine rdV (pc1 := 29) (rest := [.long z1]) (st1 := [.int (f_X6_bufferOf_0 v0_position r4 v5_rungs v7_segments), .long z1]) S (c_X6_bufferOf_0 l D cI cJ cC h0 h3 h4 h5 h7 kthis_audio kthis_samples h2 h1 kthis_line kthis_stream_audio kthis_stream_plan h6 kthis_video_rungs v0_mode v0_startThreshold v0_lastRung v0_lastChange v0_state v0_time v0_position r4 v5_most v5_rungs v7_segments 0 rfl _ rfl) (cw_X6_183 S.2.2.2.2 ⟨Nat.le_of_ble_eq_true rfl, Nat.le_of_ble_eq_true rfl⟩) hK (hP.sub [0, 3, 4, 5, 7] rfl) rfl rfl rfl rfl hl.1 rfl (Nat.le_of_ble_eq_true rfl) ⟨Nat.zero_le _, Nat.zero_le _⟩ rfl rfl dX6_abandonIfSlow_26 ?_
  refine lv_i2l hx hb dX6_abandonIfSlow_29 rfl ?_
  refine lc_gt (tgt := 35) hx hb dX6_abandonIfSlow_30 dX6_abandonIfSlow_31 (by decide) (fun c2 => ?_) (fun c2 => ?_)
  · have h := iteP c2 h
    refine lv_aload_n hx hb dX6_abandonIfSlow_35 rfl (lv_at hl 1 rfl) ?_
    refine gf_X6_31 (v := .ref h2) S hK hP 0 rfl rfl dX6_abandonIfSlow_36 ?_
    refine gf_X6_192 (v := .int v2_rung) S hK hP 2 rfl rfl dX6_abandonIfSlow_39 ?_
    refine lv_iconst (v := 1) hx hb dX6_abandonIfSlow_42 li_1 ?_
    refine lv_isub hx hb dX6_abandonIfSlow_43 ?_
    refine lv_istore_n (lv' := [(3, .int (v2_rung - 1)), (1, .long z1), (0, .ref h0)]) hx hb dX6_abandonIfSlow_44 rfl hl (by decide) rfl (fun ls hl => ?_)
    exact k_X6_abandonIfSlow_b45 S hr hlk hK hA _ v0_lastRung v0_lastChange v1_abandoned v1_wasted v2_going v2_track v2_segment v2_rung v2_waiting v2_duration v2_bits v2_received z1 (v2_rung - 1) _ _ _ (Nat.lt_succ_self _) h (hP.sub [0, 1, 2, 3, 4, 5, 6, 7] rfl) (hD.sub [0, 1, 2, 3, 4, 5, 6, 7] (by decide) rfl) hS (lv_sub hl [2, 1, 0] rfl)
  · have h := iteN c2 h
    subst h
    exact wRv S hr hlk (hP.sub [0, 1, 2, 3, 4, 5, 6, 7] rfl) (hD.sub [0, 1, 2, 3, 4, 5, 6, 7] (by decide) rfl) hS dX6_abandonIfSlow_34
abbrev rm_X6_smallestBuffer : Room := { frames := 2, cells := 0, slots := 0, locals := 42 }
theorem dX6_smallestBuffer_0 : decode cX6_smallestBuffer 0 = .ok (.aload_n 0, 1) := by decide +kernel
theorem dX6_smallestBuffer_1 : decode cX6_smallestBuffer 1 = .ok (.iconst 0, 1) := by decide +kernel
theorem dX6_smallestBuffer_2 : decode cX6_smallestBuffer 2 = .ok (.invokevirtual 183, 3) := by decide +kernel
theorem dX6_smallestBuffer_5 : decode cX6_smallestBuffer 5 = .ok (.istore_n 1, 1) := by decide +kernel
theorem dX6_smallestBuffer_6 : decode cX6_smallestBuffer 6 = .ok (.aload_n 0, 1) := by decide +kernel
theorem dX6_smallestBuffer_7 : decode cX6_smallestBuffer 7 = .ok (.getfield 53, 3) := by decide +kernel
theorem dX6_smallestBuffer_10 : decode cX6_smallestBuffer 10 = .ok (.invokevirtual 257, 3) := by decide +kernel
theorem dX6_smallestBuffer_13 : decode cX6_smallestBuffer 13 = .ok (.ifCond .eq 15, 3) := by decide +kernel
theorem dX6_smallestBuffer_16 : decode cX6_smallestBuffer 16 = .ok (.iload_n 1, 1) := by decide +kernel
theorem dX6_smallestBuffer_17 : decode cX6_smallestBuffer 17 = .ok (.aload_n 0, 1) := by decide +kernel
theorem dX6_smallestBuffer_18 : decode cX6_smallestBuffer 18 = .ok (.iconst 1, 1) := by decide +kernel
theorem dX6_smallestBuffer_19 : decode cX6_smallestBuffer 19 = .ok (.invokevirtual 183, 3) := by decide +kernel
theorem dX6_smallestBuffer_22 : decode cX6_smallestBuffer 22 = .ok (.invokestatic 283, 3) := by decide +kernel
theorem dX6_smallestBuffer_25 : decode cX6_smallestBuffer 25 = .ok (.goto 4, 3) := by decide +kernel
theorem dX6_smallestBuffer_28 : decode cX6_smallestBuffer 28 = .ok (.iload_n 1, 1) := by decide +kernel
theorem dX6_smallestBuffer_29 : decode cX6_smallestBuffer 29 = .ok (.ireturn, 1) := by decide +kernel
theorem cw_X6_257 {R : Room} {s : State} {args : Array Value} (hts : ∀ w ∈ TB, w.before args s = true) (hR : rm_X8_hasAudio.frames + 1 ≤ R.frames ∧ 8 + (1 + 11) + rm_X8_hasAudio.locals ≤ R.locals) : CallW R s args RX6 RX8 257 yX8_hasAudio cX8_hasAudio 1 (some .boolean) (Cond.code yX8_hasAudio cX8_hasAudio 1 (some .boolean) :: TB) rm_X8_hasAudio 0 0 0 := cwV 0 hts (gV tb621 tb622 tb623 tb22 tb624) rfl rfl rfl ⟨rfl, by decide, by decide, by decide +kernel⟩ hR
def f_X6_smallestBuffer (v0_position v1_segments v3_rungs : Int32) (r4 : Nat → Int32) (v5_rungs v6_segments : Int32) : Int32 :=
  bnd (f_X6_bufferOf_0 v0_position r4 v5_rungs v6_segments) fun (y1 : Int32) =>
  if (f_X8_hasAudio v3_rungs) = 0 then
    y1
  else
    mn32 y1 (f_X6_bufferOf_1 v0_position v1_segments v3_rungs r4)
set_option maxHeartbeats 4000000 in
set_option maxRecDepth 100000 in
theorem c_X6_smallestBuffer (l : Launch) (D : va_G) (cI cJ cC : ClassId) (h0 h1 h2 h3 h4 h5 h6 kthis_samples kthis_download kthis_accounts kthis_line kthis_audio_rungs kthis_stream_plan kthis_stream_audio_rates kthis_stream_video_rates kthis_video_rungs : Nat) (v0_mode v0_startThreshold v0_lastRung v0_lastChange v0_state v0_time v0_position v1_segments v3_most v3_rungs : Int32) (r4 : Nat → Int32) (v5_most v5_rungs v6_segments : Int32)  (t0 : Int32) (h : f_X6_smallestBuffer v0_position v1_segments v3_rungs r4 v5_rungs v6_segments = t0) : Met l yX6_smallestBuffer (Cond.code yX6_smallestBuffer cX6_smallestBuffer 2 (some .int) :: TB) rm_X6_smallestBuffer (PreR D cI cJ cC [(h0, .inr (6, [.ref h2, .ref h6, .ref h1, .ref kthis_samples, .ref kthis_download, .ref kthis_accounts, .ref kthis_line, .int v0_mode, .int v0_startThreshold, .int v0_lastRung, .int v0_lastChange, .int v0_state, .int v0_time, .int v0_position])), (h1, .inr (7, [.ref kthis_audio_rungs, .int v1_segments])), (h2, .inr (8, [.ref h4, .ref h5, .ref h3, .ref kthis_stream_plan])), (h3, .inr (2, [.ref kthis_stream_audio_rates, .int v3_most, .int v3_rungs])), (h4, .inl (cI, 15, .inl r4)), (h5, .inr (2, [.ref kthis_stream_video_rates, .int v5_most, .int v5_rungs])), (h6, .inr (7, [.ref kthis_video_rungs, .int v6_segments]))] [.ref h0]) (QR (some (.int t0))) 0 0 free0 := by
  refine metR (own := RX6) (by decide) rfl (Nat.le_of_ble_eq_true rfl) ?_
  intro p e s m below meth c S hr hlk hP hK ls hl
  have hx := S.1
  have hb := S.2.1
  have hl : lv_has ls 2 [(0, .ref h0)] := hl
  refine lv_aload_n hx hb dX6_smallestBuffer_0 rfl (lv_at hl 0 rfl) ?_
  refine lv_iconst (v := 0) hx hb dX6_smallestBuffer_1 li_0 ?_
  refine rdV (pc1 := 5) (rest := []) (st1 := [.int (f_X6_bufferOf_0 v0_position r4 v5_rungs v6_segments)]) S (c_X6_bufferOf_0 l D cI cJ cC h0 h2 h4 h5 h6 h1 kthis_samples kthis_download kthis_accounts kthis_line h3 kthis_stream_plan kthis_stream_video_rates kthis_video_rungs v0_mode v0_startThreshold v0_lastRung v0_lastChange v0_state v0_time v0_position r4 v5_most v5_rungs v6_segments 0 rfl _ rfl) (cw_X6_183 S.2.2.2.2 ⟨Nat.le_of_ble_eq_true rfl, Nat.le_of_ble_eq_true rfl⟩) hK (hP.sub [0, 2, 4, 5, 6] rfl) rfl rfl rfl rfl hl.1 rfl (Nat.le_of_ble_eq_true rfl) ⟨Nat.zero_le _, Nat.zero_le _⟩ rfl rfl dX6_smallestBuffer_2 ?_
  refine lv_topi (fun y1 e_y1 => ?_)
  have h := bnd_eq e_y1.symm h
  refine lv_istore_n (lv' := [(1, .int y1), (0, .ref h0)]) hx hb dX6_smallestBuffer_5 rfl hl (by decide) rfl (fun ls hl => ?_)
  refine lv_aload_n hx hb dX6_smallestBuffer_6 rfl (lv_at hl 1 rfl) ?_
  refine gf_X6_53 (v := .ref h2) S hK hP 0 rfl rfl dX6_smallestBuffer_7 ?_
  refine rdV (pc1 := 13) (rest := []) (st1 := [.int (f_X8_hasAudio v3_rungs)]) S (c_X8_hasAudio l D cI cJ cC h2 h3 h4 h5 kthis_stream_plan kthis_stream_audio_rates v3_most v3_rungs  _ rfl) (cw_X6_257 S.2.2.2.2 ⟨Nat.le_of_ble_eq_true rfl, Nat.le_of_ble_eq_true rfl⟩) hK (hP.sub [2, 3] rfl) rfl rfl rfl rfl hl.1 rfl (Nat.le_of_ble_eq_true rfl) ⟨Nat.zero_le _, Nat.zero_le _⟩ rfl rfl dX6_smallestBuffer_10 ?_
  refine lv_if_eq (tgt := 28) hx hb dX6_smallestBuffer_13 (by decide) (fun c2 => ?_) (fun c2 => ?_)
  · have h := iteP c2 h
    refine lv_iload_n hx hb dX6_smallestBuffer_28 rfl (lv_at hl 0 rfl) ?_
    subst h
    exact rRi S hr hlk dX6_smallestBuffer_29
  · have h := iteN c2 h
    refine lv_iload_n hx hb dX6_smallestBuffer_16 rfl (lv_at hl 0 rfl) ?_
    refine lv_aload_n hx hb dX6_smallestBuffer_17 rfl (lv_at hl 1 rfl) ?_
    refine lv_iconst (v := 1) hx hb dX6_smallestBuffer_18 li_1 ?_
    refine rdV (pc1 := 22) (rest := [.int y1]) (st1 := [.int (f_X6_bufferOf_1 v0_position v1_segments v3_rungs r4), .int y1]) S (c_X6_bufferOf_1 l D cI cJ cC h0 h1 h2 h3 h4 h6 kthis_samples kthis_download kthis_accounts kthis_line kthis_audio_rungs h5 kthis_stream_plan kthis_stream_audio_rates v0_mode v0_startThreshold v0_lastRung v0_lastChange v0_state v0_time v0_position v1_segments v3_most v3_rungs r4 1 (by decide) _ rfl) (cw_X6_183 S.2.2.2.2 ⟨Nat.le_of_ble_eq_true rfl, Nat.le_of_ble_eq_true rfl⟩) hK (hP.sub [0, 1, 2, 3, 4] rfl) rfl rfl rfl rfl hl.1 rfl (Nat.le_of_ble_eq_true rfl) ⟨Nat.zero_le _, Nat.zero_le _⟩ rfl rfl dX6_smallestBuffer_19 ?_
    refine mn32w S hl.1 tb554 (Nat.le_of_ble_eq_true rfl) (Nat.le_of_ble_eq_true rfl) (Nat.zero_le _) (Nat.zero_le _) dX6_smallestBuffer_22 ?_
    refine lv_goto (tgt := 29) hx hb dX6_smallestBuffer_25 (by decide) ?_
    subst h
    exact rRi S hr hlk dX6_smallestBuffer_29
abbrev rm_X6_isAllDownloaded : Room := { frames := 1, cells := 0, slots := 0, locals := 21 }
theorem dX6_isAllDownloaded_0 : decode cX6_isAllDownloaded 0 = .ok (.aload_n 0, 1) := by decide +kernel
theorem dX6_isAllDownloaded_1 : decode cX6_isAllDownloaded 1 = .ok (.getfield 53, 3) := by decide +kernel
theorem dX6_isAllDownloaded_4 : decode cX6_isAllDownloaded 4 = .ok (.iconst 1, 1) := by decide +kernel
theorem dX6_isAllDownloaded_5 : decode cX6_isAllDownloaded 5 = .ok (.invokevirtual 176, 3) := by decide +kernel
theorem dX6_isAllDownloaded_8 : decode cX6_isAllDownloaded 8 = .ok (.istore_n 1, 1) := by decide +kernel
theorem dX6_isAllDownloaded_9 : decode cX6_isAllDownloaded 9 = .ok (.aload_n 0, 1) := by decide +kernel
theorem dX6_isAllDownloaded_10 : decode cX6_isAllDownloaded 10 = .ok (.getfield 12, 3) := by decide +kernel
theorem dX6_isAllDownloaded_13 : decode cX6_isAllDownloaded 13 = .ok (.getfield 145, 3) := by decide +kernel
theorem dX6_isAllDownloaded_16 : decode cX6_isAllDownloaded 16 = .ok (.iload_n 1, 1) := by decide +kernel
theorem dX6_isAllDownloaded_17 : decode cX6_isAllDownloaded 17 = .ok (.if_icmp .lt 28, 3) := by decide +kernel
theorem dX6_isAllDownloaded_20 : decode cX6_isAllDownloaded 20 = .ok (.aload_n 0, 1) := by decide +kernel
theorem dX6_isAllDownloaded_21 : decode cX6_isAllDownloaded 21 = .ok (.getfield 53, 3) := by decide +kernel
theorem dX6_isAllDownloaded_24 : decode cX6_isAllDownloaded 24 = .ok (.invokevirtual 257, 3) := by decide +kernel
theorem dX6_isAllDownloaded_27 : decode cX6_isAllDownloaded 27 = .ok (.ifCond .eq 14, 3) := by decide +kernel
theorem dX6_isAllDownloaded_30 : decode cX6_isAllDownloaded 30 = .ok (.aload_n 0, 1) := by decide +kernel
theorem dX6_isAllDownloaded_31 : decode cX6_isAllDownloaded 31 = .ok (.getfield 18, 3) := by decide +kernel
theorem dX6_isAllDownloaded_34 : decode cX6_isAllDownloaded 34 = .ok (.getfield 145, 3) := by decide +kernel
theorem dX6_isAllDownloaded_37 : decode cX6_isAllDownloaded 37 = .ok (.iload_n 1, 1) := by decide +kernel
theorem dX6_isAllDownloaded_38 : decode cX6_isAllDownloaded 38 = .ok (.if_icmp .lt 7, 3) := by decide +kernel
theorem dX6_isAllDownloaded_41 : decode cX6_isAllDownloaded 41 = .ok (.iconst 1, 1) := by decide +kernel
theorem dX6_isAllDownloaded_42 : decode cX6_isAllDownloaded 42 = .ok (.goto 4, 3) := by decide +kernel
theorem dX6_isAllDownloaded_45 : decode cX6_isAllDownloaded 45 = .ok (.iconst 0, 1) := by decide +kernel
theorem dX6_isAllDownloaded_46 : decode cX6_isAllDownloaded 46 = .ok (.ireturn, 1) := by decide +kernel
def f_X6_isAllDownloaded (v1_segments v3_rungs : Int32) (r4 : Nat → Int32) (v5_segments : Int32) : Int32 :=
  if v5_segments < (f_X8_valueOf r4 1) then
    0
  else
    if (f_X8_hasAudio v3_rungs) = 0 then
      1
    else
      if v1_segments < (f_X8_valueOf r4 1) then
        0
      else
        1
set_option maxHeartbeats 4000000 in
set_option maxRecDepth 100000 in
theorem c_X6_isAllDownloaded (l : Launch) (D : va_G) (cI cJ cC : ClassId) (h0 h1 h2 h3 h4 h5 kthis_samples kthis_download kthis_accounts kthis_line kthis_audio_rungs kthis_stream_video kthis_stream_plan kthis_stream_audio_rates kthis_video_rungs : Nat) (v0_mode v0_startThreshold v0_lastRung v0_lastChange v0_state v0_time v0_position v1_segments v3_most v3_rungs : Int32) (r4 : Nat → Int32) (v5_segments : Int32)  (t0 : Int32) (h : f_X6_isAllDownloaded v1_segments v3_rungs r4 v5_segments = t0) : Met l yX6_isAllDownloaded (Cond.code yX6_isAllDownloaded cX6_isAllDownloaded 2 (some .boolean) :: TB) rm_X6_isAllDownloaded (PreR D cI cJ cC [(h0, .inr (6, [.ref h2, .ref h5, .ref h1, .ref kthis_samples, .ref kthis_download, .ref kthis_accounts, .ref kthis_line, .int v0_mode, .int v0_startThreshold, .int v0_lastRung, .int v0_lastChange, .int v0_state, .int v0_time, .int v0_position])), (h1, .inr (7, [.ref kthis_audio_rungs, .int v1_segments])), (h2, .inr (8, [.ref h4, .ref kthis_stream_video, .ref h3, .ref kthis_stream_plan])), (h3, .inr (2, [.ref kthis_stream_audio_rates, .int v3_most, .int v3_rungs])), (h4, .inl (cI, 15, .inl r4)), (h5, .inr (7, [.ref kthis_video_rungs, .int v5_segments]))] [.ref h0]) (QR (some (.int t0))) 0 0 free0 := by
  refine metR (own := RX6) (by decide) rfl (Nat.le_of_ble_eq_true rfl) ?_
  intro p e s m below meth c S hr hlk hP hK ls hl
  have hx := S.1
  have hb := S.2.1
  have hl : lv_has ls 2 [(0, .ref h0)] := hl
  refine lv_aload_n hx hb dX6_isAllDownloaded_0 rfl (lv_at hl 0 rfl) ?_
  refine gf_X6_53 (v := .ref h2) S hK hP 0 rfl rfl dX6_isAllDownloaded_1 ?_
  refine lv_iconst (v := 1) hx hb dX6_isAllDownloaded_4 li_1 ?_
  refine rdV (pc1 := 8) (rest := []) (st1 := [.int (f_X8_valueOf r4 1)]) S (c_X8_valueOf l D cI cJ cC h2 h4 kthis_stream_video h3 kthis_stream_plan r4 1 _ rfl) (cw_X6_176 S.2.2.2.2 ⟨Nat.le_of_ble_eq_true rfl, Nat.le_of_ble_eq_true rfl⟩) hK (hP.sub [2, 4] rfl) rfl rfl rfl rfl hl.1 rfl (Nat.le_of_ble_eq_true rfl) ⟨Nat.zero_le _, Nat.zero_le _⟩ rfl rfl dX6_isAllDownloaded_5 ?_
  refine lv_istore_n (lv' := [(1, .int (f_X8_valueOf r4 1)), (0, .ref h0)]) hx hb dX6_isAllDownloaded_8 rfl hl (by decide) rfl (fun ls hl => ?_)
  refine lv_aload_n hx hb dX6_isAllDownloaded_9 rfl (lv_at hl 1 rfl) ?_
  refine gf_X6_12 (v := .ref h5) S hK hP 0 rfl rfl dX6_isAllDownloaded_10 ?_
  refine gf_X6_145 (v := .int v5_segments) S hK hP 5 rfl rfl dX6_isAllDownloaded_13 ?_
  refine lv_iload_n hx hb dX6_isAllDownloaded_16 rfl (lv_at hl 0 rfl) ?_
  refine lv_icmp_lt (tgt := 45) hx hb dX6_isAllDownloaded_17 (by decide) (fun c1 => ?_) (fun c1 => ?_)
  · have h := iteP c1 h
    refine lv_iconst (v := 0) hx hb dX6_isAllDownloaded_45 li_0 ?_
    subst h
    exact rRz S hr hlk (by decide) dX6_isAllDownloaded_46
  · have h := iteN c1 h
    refine lv_aload_n hx hb dX6_isAllDownloaded_20 rfl (lv_at hl 1 rfl) ?_
    refine gf_X6_53 (v := .ref h2) S hK hP 0 rfl rfl dX6_isAllDownloaded_21 ?_
    refine rdV (pc1 := 27) (rest := []) (st1 := [.int (f_X8_hasAudio v3_rungs)]) S (c_X8_hasAudio l D cI cJ cC h2 h3 h4 kthis_stream_video kthis_stream_plan kthis_stream_audio_rates v3_most v3_rungs  _ rfl) (cw_X6_257 S.2.2.2.2 ⟨Nat.le_of_ble_eq_true rfl, Nat.le_of_ble_eq_true rfl⟩) hK (hP.sub [2, 3] rfl) rfl rfl rfl rfl hl.1 rfl (Nat.le_of_ble_eq_true rfl) ⟨Nat.zero_le _, Nat.zero_le _⟩ rfl rfl dX6_isAllDownloaded_24 ?_
    refine lv_if_eq (tgt := 41) hx hb dX6_isAllDownloaded_27 (by decide) (fun c2 => ?_) (fun c2 => ?_)
    · have h := iteP c2 h
      refine lv_iconst (v := 1) hx hb dX6_isAllDownloaded_41 li_1 ?_
      refine lv_goto (tgt := 46) hx hb dX6_isAllDownloaded_42 (by decide) ?_
      subst h
      exact rRz S hr hlk (by decide) dX6_isAllDownloaded_46
    · have h := iteN c2 h
      refine lv_aload_n hx hb dX6_isAllDownloaded_30 rfl (lv_at hl 1 rfl) ?_
      refine gf_X6_18 (v := .ref h1) S hK hP 0 rfl rfl dX6_isAllDownloaded_31 ?_
      refine gf_X6_145 (v := .int v1_segments) S hK hP 1 rfl rfl dX6_isAllDownloaded_34 ?_
      refine lv_iload_n hx hb dX6_isAllDownloaded_37 rfl (lv_at hl 0 rfl) ?_
      refine lv_icmp_lt (tgt := 45) hx hb dX6_isAllDownloaded_38 (by decide) (fun c3 => ?_) (fun c3 => ?_)
      · have h := iteP c3 h
        refine lv_iconst (v := 0) hx hb dX6_isAllDownloaded_45 li_0 ?_
        subst h
        exact rRz S hr hlk (by decide) dX6_isAllDownloaded_46
      · have h := iteN c3 h
        refine lv_iconst (v := 1) hx hb dX6_isAllDownloaded_41 li_1 ?_
        refine lv_goto (tgt := 46) hx hb dX6_isAllDownloaded_42 (by decide) ?_
        subst h
        exact rRz S hr hlk (by decide) dX6_isAllDownloaded_46
abbrev rm_X6_isReadyToPlay : Room := { frames := 3, cells := 0, slots := 0, locals := 63 }
theorem dX6_isReadyToPlay_0 : decode cX6_isReadyToPlay 0 = .ok (.aload_n 0, 1) := by decide +kernel
theorem dX6_isReadyToPlay_1 : decode cX6_isReadyToPlay 1 = .ok (.getfield 49, 3) := by decide +kernel
theorem dX6_isReadyToPlay_4 : decode cX6_isReadyToPlay 4 = .ok (.iconst 1, 1) := by decide +kernel
theorem dX6_isReadyToPlay_5 : decode cX6_isReadyToPlay 5 = .ok (.if_icmp .ne 27, 3) := by decide +kernel
theorem dX6_isReadyToPlay_8 : decode cX6_isReadyToPlay 8 = .ok (.aload_n 0, 1) := by decide +kernel
theorem dX6_isReadyToPlay_9 : decode cX6_isReadyToPlay 9 = .ok (.invokevirtual 251, 3) := by decide +kernel
theorem dX6_isReadyToPlay_12 : decode cX6_isReadyToPlay 12 = .ok (.aload_n 0, 1) := by decide +kernel
theorem dX6_isReadyToPlay_13 : decode cX6_isReadyToPlay 13 = .ok (.getfield 60, 3) := by decide +kernel
theorem dX6_isReadyToPlay_16 : decode cX6_isReadyToPlay 16 = .ok (.if_icmp .ge 10, 3) := by decide +kernel
theorem dX6_isReadyToPlay_19 : decode cX6_isReadyToPlay 19 = .ok (.aload_n 0, 1) := by decide +kernel
theorem dX6_isReadyToPlay_20 : decode cX6_isReadyToPlay 20 = .ok (.invokevirtual 254, 3) := by decide +kernel
theorem dX6_isReadyToPlay_23 : decode cX6_isReadyToPlay 23 = .ok (.ifCond .eq 7, 3) := by decide +kernel
theorem dX6_isReadyToPlay_26 : decode cX6_isReadyToPlay 26 = .ok (.iconst 1, 1) := by decide +kernel
theorem dX6_isReadyToPlay_27 : decode cX6_isReadyToPlay 27 = .ok (.goto 4, 3) := by decide +kernel
theorem dX6_isReadyToPlay_30 : decode cX6_isReadyToPlay 30 = .ok (.iconst 0, 1) := by decide +kernel
theorem dX6_isReadyToPlay_31 : decode cX6_isReadyToPlay 31 = .ok (.ireturn, 1) := by decide +kernel
theorem dX6_isReadyToPlay_32 : decode cX6_isReadyToPlay 32 = .ok (.aload_n 0, 1) := by decide +kernel
theorem dX6_isReadyToPlay_33 : decode cX6_isReadyToPlay 33 = .ok (.getfield 49, 3) := by decide +kernel
theorem dX6_isReadyToPlay_36 : decode cX6_isReadyToPlay 36 = .ok (.iconst 3, 1) := by decide +kernel
theorem dX6_isReadyToPlay_37 : decode cX6_isReadyToPlay 37 = .ok (.if_icmp .ne 31, 3) := by decide +kernel
theorem dX6_isReadyToPlay_40 : decode cX6_isReadyToPlay 40 = .ok (.aload_n 0, 1) := by decide +kernel
theorem dX6_isReadyToPlay_41 : decode cX6_isReadyToPlay 41 = .ok (.invokevirtual 251, 3) := by decide +kernel
theorem dX6_isReadyToPlay_44 : decode cX6_isReadyToPlay 44 = .ok (.aload_n 0, 1) := by decide +kernel
theorem dX6_isReadyToPlay_45 : decode cX6_isReadyToPlay 45 = .ok (.getfield 53, 3) := by decide +kernel
theorem dX6_isReadyToPlay_48 : decode cX6_isReadyToPlay 48 = .ok (.iconst 4, 1) := by decide +kernel
theorem dX6_isReadyToPlay_49 : decode cX6_isReadyToPlay 49 = .ok (.invokevirtual 176, 3) := by decide +kernel
theorem dX6_isReadyToPlay_52 : decode cX6_isReadyToPlay 52 = .ok (.if_icmp .ge 10, 3) := by decide +kernel
theorem dX6_isReadyToPlay_55 : decode cX6_isReadyToPlay 55 = .ok (.aload_n 0, 1) := by decide +kernel
theorem dX6_isReadyToPlay_56 : decode cX6_isReadyToPlay 56 = .ok (.invokevirtual 254, 3) := by decide +kernel
theorem dX6_isReadyToPlay_59 : decode cX6_isReadyToPlay 59 = .ok (.ifCond .eq 7, 3) := by decide +kernel
theorem dX6_isReadyToPlay_62 : decode cX6_isReadyToPlay 62 = .ok (.iconst 1, 1) := by decide +kernel
theorem dX6_isReadyToPlay_63 : decode cX6_isReadyToPlay 63 = .ok (.goto 4, 3) := by decide +kernel
theorem dX6_isReadyToPlay_66 : decode cX6_isReadyToPlay 66 = .ok (.iconst 0, 1) := by decide +kernel
theorem dX6_isReadyToPlay_67 : decode cX6_isReadyToPlay 67 = .ok (.ireturn, 1) := by decide +kernel
theorem dX6_isReadyToPlay_68 : decode cX6_isReadyToPlay 68 = .ok (.iconst 0, 1) := by decide +kernel
theorem dX6_isReadyToPlay_69 : decode cX6_isReadyToPlay 69 = .ok (.ireturn, 1) := by decide +kernel
theorem cw_X6_251 {R : Room} {s : State} {args : Array Value} (hts : ∀ w ∈ TB, w.before args s = true) (hR : rm_X6_smallestBuffer.frames + 1 ≤ R.frames ∧ 8 + (2 + 11) + rm_X6_smallestBuffer.locals ≤ R.locals) : CallW R s args RX6 RX6 251 yX6_smallestBuffer cX6_smallestBuffer 2 (some .int) (Cond.code yX6_smallestBuffer cX6_smallestBuffer 2 (some .int) :: TB) rm_X6_smallestBuffer 0 0 0 := cwV 0 hts (gV tb618 tb619 tb14 tb25 tb620) rfl rfl rfl ⟨rfl, by decide, by decide, by decide +kernel⟩ hR
theorem cw_X6_254 {R : Room} {s : State} {args : Array Value} (hts : ∀ w ∈ TB, w.before args s = true) (hR : rm_X6_isAllDownloaded.frames + 1 ≤ R.frames ∧ 8 + (2 + 11) + rm_X6_isAllDownloaded.locals ≤ R.locals) : CallW R s args RX6 RX6 254 yX6_isAllDownloaded cX6_isAllDownloaded 2 (some .boolean) (Cond.code yX6_isAllDownloaded cX6_isAllDownloaded 2 (some .boolean) :: TB) rm_X6_isAllDownloaded 0 0 0 := cwV 0 hts (gV tb625 tb626 tb15 tb25 tb627) rfl rfl rfl ⟨rfl, by decide, by decide, by decide +kernel⟩ hR
def f_X6_isReadyToPlay (v0_startThreshold v0_state v0_position v1_segments v3_rungs : Int32) (r4 : Nat → Int32) (v5_rungs v6_segments : Int32) : Int32 :=
  if v0_state = 1 then
    if v0_startThreshold ≤ (f_X6_smallestBuffer v0_position v1_segments v3_rungs r4 v5_rungs v6_segments) then
      1
    else
      if (f_X6_isAllDownloaded v1_segments v3_rungs r4 v6_segments) = 0 then
        0
      else
        1
  else
    if v0_state = 3 then
      if (f_X8_valueOf r4 4) ≤ (f_X6_smallestBuffer v0_position v1_segments v3_rungs r4 v5_rungs v6_segments) then
        1
      else
        if (f_X6_isAllDownloaded v1_segments v3_rungs r4 v6_segments) = 0 then
          0
        else
          1
    else
      0
set_option maxHeartbeats 4000000 in
set_option maxRecDepth 100000 in
theorem c_X6_isReadyToPlay (l : Launch) (D : va_G) (cI cJ cC : ClassId) (h0 h1 h2 h3 h4 h5 h6 kthis_samples kthis_download kthis_accounts kthis_line kthis_audio_rungs kthis_stream_plan kthis_stream_audio_rates kthis_stream_video_rates kthis_video_rungs : Nat) (v0_mode v0_startThreshold v0_lastRung v0_lastChange v0_state v0_time v0_position v1_segments v3_most v3_rungs : Int32) (r4 : Nat → Int32) (v5_most v5_rungs v6_segments : Int32)  (t0 : Int32) (h : f_X6_isReadyToPlay v0_startThreshold v0_state v0_position v1_segments v3_rungs r4 v5_rungs v6_segments = t0) : Met l yX6_isReadyToPlay (Cond.code yX6_isReadyToPlay cX6_isReadyToPlay 1 (some .boolean) :: TB) rm_X6_isReadyToPlay (PreR D cI cJ cC [(h0, .inr (6, [.ref h2, .ref h6, .ref h1, .ref kthis_samples, .ref kthis_download, .ref kthis_accounts, .ref kthis_line, .int v0_mode, .int v0_startThreshold, .int v0_lastRung, .int v0_lastChange, .int v0_state, .int v0_time, .int v0_position])), (h1, .inr (7, [.ref kthis_audio_rungs, .int v1_segments])), (h2, .inr (8, [.ref h4, .ref h5, .ref h3, .ref kthis_stream_plan])), (h3, .inr (2, [.ref kthis_stream_audio_rates, .int v3_most, .int v3_rungs])), (h4, .inl (cI, 15, .inl r4)), (h5, .inr (2, [.ref kthis_stream_video_rates, .int v5_most, .int v5_rungs])), (h6, .inr (7, [.ref kthis_video_rungs, .int v6_segments]))] [.ref h0]) (QR (some (.int t0))) 0 0 free0 := by
  refine metR (own := RX6) (by decide) rfl (Nat.le_of_ble_eq_true rfl) ?_
  intro p e s m below meth c S hr hlk hP hK ls hl
  have hx := S.1
  have hb := S.2.1
  have hl : lv_has ls 1 [(0, .ref h0)] := hl
  refine lv_aload_n hx hb dX6_isReadyToPlay_0 rfl (lv_at hl 0 rfl) ?_
  refine gf_X6_49 (v := .int v0_state) S hK hP 0 rfl rfl dX6_isReadyToPlay_1 ?_
  refine lv_iconst (v := 1) hx hb dX6_isReadyToPlay_4 li_1 ?_
  refine lv_icmp_ne (tgt := 32) hx hb dX6_isReadyToPlay_5 (by decide) (fun c1 => ?_) (fun c1 => ?_)
  · have h := iteN c1 h
    refine lv_aload_n hx hb dX6_isReadyToPlay_32 rfl (lv_at hl 0 rfl) ?_
    refine gf_X6_49 (v := .int v0_state) S hK hP 0 rfl rfl dX6_isReadyToPlay_33 ?_
    refine lv_iconst (v := 3) hx hb dX6_isReadyToPlay_36 li_3 ?_
    refine lv_icmp_ne (tgt := 68) hx hb dX6_isReadyToPlay_37 (by decide) (fun c2 => ?_) (fun c2 => ?_)
    · have h := iteN c2 h
      refine lv_iconst (v := 0) hx hb dX6_isReadyToPlay_68 li_0 ?_
      subst h
      exact rRz S hr hlk (by decide) dX6_isReadyToPlay_69
    · have h := iteP c2 h
      refine lv_aload_n hx hb dX6_isReadyToPlay_40 rfl (lv_at hl 0 rfl) ?_
      refine rdV (pc1 := 44) (rest := []) (st1 := [.int (f_X6_smallestBuffer v0_position v1_segments v3_rungs r4 v5_rungs v6_segments)]) S (c_X6_smallestBuffer l D cI cJ cC h0 h1 h2 h3 h4 h5 h6 kthis_samples kthis_download kthis_accounts kthis_line kthis_audio_rungs kthis_stream_plan kthis_stream_audio_rates kthis_stream_video_rates kthis_video_rungs v0_mode v0_startThreshold v0_lastRung v0_lastChange v0_state v0_time v0_position v1_segments v3_most v3_rungs r4 v5_most v5_rungs v6_segments  _ rfl) (cw_X6_251 S.2.2.2.2 ⟨Nat.le_of_ble_eq_true rfl, Nat.le_of_ble_eq_true rfl⟩) hK (hP.sub [0, 1, 2, 3, 4, 5, 6] rfl) rfl rfl rfl rfl hl.1 rfl (Nat.le_of_ble_eq_true rfl) ⟨Nat.zero_le _, Nat.zero_le _⟩ rfl rfl dX6_isReadyToPlay_41 ?_
      refine lv_aload_n hx hb dX6_isReadyToPlay_44 rfl (lv_at hl 0 rfl) ?_
      refine gf_X6_53 (v := .ref h2) S hK hP 0 rfl rfl dX6_isReadyToPlay_45 ?_
      refine lv_iconst (v := 4) hx hb dX6_isReadyToPlay_48 li_4 ?_
      refine rdV (pc1 := 52) (rest := [.int (f_X6_smallestBuffer v0_position v1_segments v3_rungs r4 v5_rungs v6_segments)]) (st1 := [.int (f_X8_valueOf r4 4), .int (f_X6_smallestBuffer v0_position v1_segments v3_rungs r4 v5_rungs v6_segments)]) S (c_X8_valueOf l D cI cJ cC h2 h4 h5 h3 kthis_stream_plan r4 4 _ rfl) (cw_X6_176 S.2.2.2.2 ⟨Nat.le_of_ble_eq_true rfl, Nat.le_of_ble_eq_true rfl⟩) hK (hP.sub [2, 4] rfl) rfl rfl rfl rfl hl.1 rfl (Nat.le_of_ble_eq_true rfl) ⟨Nat.zero_le _, Nat.zero_le _⟩ rfl rfl dX6_isReadyToPlay_49 ?_
      refine lv_icmp_ge (tgt := 62) hx hb dX6_isReadyToPlay_52 (by decide) (fun c3 => ?_) (fun c3 => ?_)
      · have h := iteP c3 h
        refine lv_iconst (v := 1) hx hb dX6_isReadyToPlay_62 li_1 ?_
        refine lv_goto (tgt := 67) hx hb dX6_isReadyToPlay_63 (by decide) ?_
        subst h
        exact rRz S hr hlk (by decide) dX6_isReadyToPlay_67
      · have h := iteN c3 h
        refine lv_aload_n hx hb dX6_isReadyToPlay_55 rfl (lv_at hl 0 rfl) ?_
        refine rdV (pc1 := 59) (rest := []) (st1 := [.int (f_X6_isAllDownloaded v1_segments v3_rungs r4 v6_segments)]) S (c_X6_isAllDownloaded l D cI cJ cC h0 h1 h2 h3 h4 h6 kthis_samples kthis_download kthis_accounts kthis_line kthis_audio_rungs h5 kthis_stream_plan kthis_stream_audio_rates kthis_video_rungs v0_mode v0_startThreshold v0_lastRung v0_lastChange v0_state v0_time v0_position v1_segments v3_most v3_rungs r4 v6_segments  _ rfl) (cw_X6_254 S.2.2.2.2 ⟨Nat.le_of_ble_eq_true rfl, Nat.le_of_ble_eq_true rfl⟩) hK (hP.sub [0, 1, 2, 3, 4, 6] rfl) rfl rfl rfl rfl hl.1 rfl (Nat.le_of_ble_eq_true rfl) ⟨Nat.zero_le _, Nat.zero_le _⟩ rfl rfl dX6_isReadyToPlay_56 ?_
        refine lv_if_eq (tgt := 66) hx hb dX6_isReadyToPlay_59 (by decide) (fun c4 => ?_) (fun c4 => ?_)
        · have h := iteP c4 h
          refine lv_iconst (v := 0) hx hb dX6_isReadyToPlay_66 li_0 ?_
          subst h
          exact rRz S hr hlk (by decide) dX6_isReadyToPlay_67
        · have h := iteN c4 h
          refine lv_iconst (v := 1) hx hb dX6_isReadyToPlay_62 li_1 ?_
          refine lv_goto (tgt := 67) hx hb dX6_isReadyToPlay_63 (by decide) ?_
          subst h
          exact rRz S hr hlk (by decide) dX6_isReadyToPlay_67
  · have h := iteP c1 h
    refine lv_aload_n hx hb dX6_isReadyToPlay_8 rfl (lv_at hl 0 rfl) ?_
    refine rdV (pc1 := 12) (rest := []) (st1 := [.int (f_X6_smallestBuffer v0_position v1_segments v3_rungs r4 v5_rungs v6_segments)]) S (c_X6_smallestBuffer l D cI cJ cC h0 h1 h2 h3 h4 h5 h6 kthis_samples kthis_download kthis_accounts kthis_line kthis_audio_rungs kthis_stream_plan kthis_stream_audio_rates kthis_stream_video_rates kthis_video_rungs v0_mode v0_startThreshold v0_lastRung v0_lastChange v0_state v0_time v0_position v1_segments v3_most v3_rungs r4 v5_most v5_rungs v6_segments  _ rfl) (cw_X6_251 S.2.2.2.2 ⟨Nat.le_of_ble_eq_true rfl, Nat.le_of_ble_eq_true rfl⟩) hK (hP.sub [0, 1, 2, 3, 4, 5, 6] rfl) rfl rfl rfl rfl hl.1 rfl (Nat.le_of_ble_eq_true rfl) ⟨Nat.zero_le _, Nat.zero_le _⟩ rfl rfl dX6_isReadyToPlay_9 ?_
    refine lv_aload_n hx hb dX6_isReadyToPlay_12 rfl (lv_at hl 0 rfl) ?_
    refine gf_X6_60 (v := .int v0_startThreshold) S hK hP 0 rfl rfl dX6_isReadyToPlay_13 ?_
    refine lv_icmp_ge (tgt := 26) hx hb dX6_isReadyToPlay_16 (by decide) (fun c5 => ?_) (fun c5 => ?_)
    · have h := iteP c5 h
      refine lv_iconst (v := 1) hx hb dX6_isReadyToPlay_26 li_1 ?_
      refine lv_goto (tgt := 31) hx hb dX6_isReadyToPlay_27 (by decide) ?_
      subst h
      exact rRz S hr hlk (by decide) dX6_isReadyToPlay_31
    · have h := iteN c5 h
      refine lv_aload_n hx hb dX6_isReadyToPlay_19 rfl (lv_at hl 0 rfl) ?_
      refine rdV (pc1 := 23) (rest := []) (st1 := [.int (f_X6_isAllDownloaded v1_segments v3_rungs r4 v6_segments)]) S (c_X6_isAllDownloaded l D cI cJ cC h0 h1 h2 h3 h4 h6 kthis_samples kthis_download kthis_accounts kthis_line kthis_audio_rungs h5 kthis_stream_plan kthis_stream_audio_rates kthis_video_rungs v0_mode v0_startThreshold v0_lastRung v0_lastChange v0_state v0_time v0_position v1_segments v3_most v3_rungs r4 v6_segments  _ rfl) (cw_X6_254 S.2.2.2.2 ⟨Nat.le_of_ble_eq_true rfl, Nat.le_of_ble_eq_true rfl⟩) hK (hP.sub [0, 1, 2, 3, 4, 6] rfl) rfl rfl rfl rfl hl.1 rfl (Nat.le_of_ble_eq_true rfl) ⟨Nat.zero_le _, Nat.zero_le _⟩ rfl rfl dX6_isReadyToPlay_20 ?_
      refine lv_if_eq (tgt := 30) hx hb dX6_isReadyToPlay_23 (by decide) (fun c6 => ?_) (fun c6 => ?_)
      · have h := iteP c6 h
        refine lv_iconst (v := 0) hx hb dX6_isReadyToPlay_30 li_0 ?_
        subst h
        exact rRz S hr hlk (by decide) dX6_isReadyToPlay_31
      · have h := iteN c6 h
        refine lv_iconst (v := 1) hx hb dX6_isReadyToPlay_26 li_1 ?_
        refine lv_goto (tgt := 31) hx hb dX6_isReadyToPlay_27 (by decide) ?_
        subst h
        exact rRz S hr hlk (by decide) dX6_isReadyToPlay_31
abbrev rm_X6_leavePlaying : Room := { frames := 1, cells := 0, slots := 0, locals := 21 }
theorem dX6_leavePlaying_0 : decode cX6_leavePlaying 0 = .ok (.aload_n 0, 1) := by decide +kernel
theorem dX6_leavePlaying_1 : decode cX6_leavePlaying 1 = .ok (.getfield 82, 3) := by decide +kernel
theorem dX6_leavePlaying_4 : decode cX6_leavePlaying 4 = .ok (.aload_n 0, 1) := by decide +kernel
theorem dX6_leavePlaying_5 : decode cX6_leavePlaying 5 = .ok (.getfield 53, 3) := by decide +kernel
theorem dX6_leavePlaying_8 : decode cX6_leavePlaying 8 = .ok (.iconst 1, 1) := by decide +kernel
theorem dX6_leavePlaying_9 : decode cX6_leavePlaying 9 = .ok (.invokevirtual 176, 3) := by decide +kernel
theorem dX6_leavePlaying_12 : decode cX6_leavePlaying 12 = .ok (.aload_n 0, 1) := by decide +kernel
theorem dX6_leavePlaying_13 : decode cX6_leavePlaying 13 = .ok (.getfield 53, 3) := by decide +kernel
theorem dX6_leavePlaying_16 : decode cX6_leavePlaying 16 = .ok (.iconst 0, 1) := by decide +kernel
theorem dX6_leavePlaying_17 : decode cX6_leavePlaying 17 = .ok (.invokevirtual 176, 3) := by decide +kernel
theorem dX6_leavePlaying_20 : decode cX6_leavePlaying 20 = .ok (.imul, 1) := by decide +kernel
theorem dX6_leavePlaying_21 : decode cX6_leavePlaying 21 = .ok (.if_icmp .ne 11, 3) := by decide +kernel
theorem dX6_leavePlaying_24 : decode cX6_leavePlaying 24 = .ok (.aload_n 0, 1) := by decide +kernel
theorem dX6_leavePlaying_25 : decode cX6_leavePlaying 25 = .ok (.iconst 4, 1) := by decide +kernel
theorem dX6_leavePlaying_26 : decode cX6_leavePlaying 26 = .ok (.putfield 49, 3) := by decide +kernel
theorem dX6_leavePlaying_29 : decode cX6_leavePlaying 29 = .ok (.goto 21, 3) := by decide +kernel
theorem dX6_leavePlaying_32 : decode cX6_leavePlaying 32 = .ok (.aload_n 0, 1) := by decide +kernel
theorem dX6_leavePlaying_33 : decode cX6_leavePlaying 33 = .ok (.iconst 3, 1) := by decide +kernel
theorem dX6_leavePlaying_34 : decode cX6_leavePlaying 34 = .ok (.putfield 49, 3) := by decide +kernel
theorem dX6_leavePlaying_37 : decode cX6_leavePlaying 37 = .ok (.aload_n 0, 1) := by decide +kernel
theorem dX6_leavePlaying_38 : decode cX6_leavePlaying 38 = .ok (.getfield 38, 3) := by decide +kernel
theorem dX6_leavePlaying_41 : decode cX6_leavePlaying 41 = .ok (.dup, 1) := by decide +kernel
theorem dX6_leavePlaying_42 : decode cX6_leavePlaying 42 = .ok (.getfield 274, 3) := by decide +kernel
theorem dX6_leavePlaying_45 : decode cX6_leavePlaying 45 = .ok (.iconst 1, 1) := by decide +kernel
theorem dX6_leavePlaying_46 : decode cX6_leavePlaying 46 = .ok (.iadd, 1) := by decide +kernel
theorem dX6_leavePlaying_47 : decode cX6_leavePlaying 47 = .ok (.putfield 274, 3) := by decide +kernel
theorem dX6_leavePlaying_50 : decode cX6_leavePlaying 50 = .ok (.return_, 1) := by decide +kernel
theorem gf_X6_274 {p : Program} {l : Launch} {e : Env} {R : Room} {s : State} {m : MethodId} {args : Array Value} {below : List Frame} {meth : Method} {c : Code} {H : Heap} {locs : List Loc} {cells slots : Nat} {Q : State → Prop} {cc : ByteArray} {pc nL : Nat} {ls : Array Slot} {rest : List Value} {D : va_G} {ws : va_W} {tys : List (ClassId × FieldType)} (S : CallFix p m c cc nL s args TB RX6) (hK : va_K D vwCl tys s) (hP : va_P D vwCl ws H) (q0 : Nat) {a : Nat} {fs : List Value} (he : ws[q0]? = some (a, .inr (0, fs))) {v : Value} (hv : fs[3]? = some v) (hdg : decode cc pc = .ok (.getfield 274, 3))
    (kk : W p l e R s m args below meth c H locs cells slots Q (F0 m (pc + 3) ls (v :: rest))) : W p l e R s m args below meth c H locs cells slots Q (F0 m pc ls (.ref a :: rest)) :=
  va_get (D := D) (ci := 0) (C := RX0) (T := TX0) (N := 9) S.1 S.2.1 S.2.2.2.2 iwX0 S.2.2.2.1 hK hP q0 he rfl 3 (by decide) (S.2.2.2.2 _ tb198) (fun _ h9 => h9) hv hdg kk
theorem pf_X6_274 {p : Program} {l : Launch} {e : Env} {R : Room} {s : State} {m : MethodId} {args : Array Value} {below : List Frame} {meth : Method} {c : Code} {H H0 : Heap} {locs : List Loc} {cells slots : Nat} {Q : State → Prop} {cc : ByteArray} {pc nL : Nat} {ls : Array Slot} {rest : List Value} {D : va_G} {ws : va_W} {tys : List (ClassId × FieldType)} {A : Nat → Prop} {x9 : Int32} {v : Value} (S : CallFix p m c cc nL s args TB RX6) (hK : va_K D vwCl tys s) (hP : va_P D vwCl ws H) (hD : va_D A ws) (hS : va_S A H0 H locs) (q0 : Nat) {a : Nat} {fs : List Value} (he : ws[q0]? = some (a, .inr (0, fs))) (hle : 3 < fs.length) (hv9 : v = .int x9) (hdg : decode cc pc = .ok (.putfield 274, 3))
    (kk : ∀ (H1 : Heap) (locs1 : List Loc), va_P D vwCl (ws.set q0 (a, .inr (0, fs.set 3 v))) H1 → va_D A (ws.set q0 (a, .inr (0, fs.set 3 v))) → va_S A H0 H1 locs1 → W p l e R s m args below meth c H1 locs1 cells slots Q (F0 m (pc + 3) ls rest)) : W p l e R s m args below meth c H locs cells slots Q (F0 m pc ls (v :: .ref a :: rest)) := by
  subst hv9
  exact va_put (D := D) (ci := 0) (ty := .int) (C := RX0) (T := TX0) (N := 9) S.1 S.2.1 S.2.2.2.2 iwX0 tyX0 tyX0_ok nmX0 S.2.2.2.1 hK hP hD hS q0 he rfl 3 (by decide) (S.2.2.2.2 _ tb198) (fun _ h9 => h9) rfl (by decide +kernel) rfl rfl hle hdg kk
def f_X6_leavePlaying (v0_position v1_stalls : Int32) (r3 : Nat → Int32) : Int32 × Int32 :=
  if v0_position = ((f_X8_valueOf r3 1) * (f_X8_valueOf r3 0)) then
    (4, v1_stalls)
  else
    (3, v1_stalls + 1)
set_option maxHeartbeats 4000000 in
set_option maxRecDepth 100000 in
theorem c_X6_leavePlaying (l : Launch) (D : va_G) (cI cJ cC : ClassId) (h0 h1 h2 h3 kthis_video kthis_audio kthis_samples kthis_download kthis_line kthis_stream_video kthis_stream_audio kthis_stream_plan : Nat) (v0_mode v0_startThreshold v0_lastRung v0_lastChange v0_state v0_time v0_position v1_startUpTime v1_stallTime v1_playTime v1_stalls v1_abandoned v1_finished v1_switches : Int32) (v1_wasted v1_quality : Int64) (r3 : Nat → Int32) (sz : Nat)  (T : Int32 × Int32) (h : f_X6_leavePlaying v0_position v1_stalls r3 = T) : Met l yX6_leavePlaying (Cond.code yX6_leavePlaying cX6_leavePlaying 1 none :: TB) rm_X6_leavePlaying (PreW D cI cJ cC [(h0, .inr (6, [.ref h2, .ref kthis_video, .ref kthis_audio, .ref kthis_samples, .ref kthis_download, .ref h1, .ref kthis_line, .int v0_mode, .int v0_startThreshold, .int v0_lastRung, .int v0_lastChange, .int v0_state, .int v0_time, .int v0_position])), (h1, .inr (0, [.int v1_startUpTime, .int v1_stallTime, .int v1_playTime, .int v1_stalls, .int v1_abandoned, .int v1_finished, .int v1_switches, .long v1_wasted, .long v1_quality])), (h2, .inr (8, [.ref h3, .ref kthis_stream_video, .ref kthis_stream_audio, .ref kthis_stream_plan])), (h3, .inl (cI, 15, .inl r3))] sz [.ref h0]) (QW none D [(h0, .inr (6, [.ref h2, .ref kthis_video, .ref kthis_audio, .ref kthis_samples, .ref kthis_download, .ref h1, .ref kthis_line, .int v0_mode, .int v0_startThreshold, .int v0_lastRung, .int v0_lastChange, .int T.1, .int v0_time, .int v0_position])), (h1, .inr (0, [.int v1_startUpTime, .int v1_stallTime, .int v1_playTime, .int T.2, .int v1_abandoned, .int v1_finished, .int v1_switches, .long v1_wasted, .long v1_quality])), (h2, .inr (8, [.ref h3, .ref kthis_stream_video, .ref kthis_stream_audio, .ref kthis_stream_plan])), (h3, .inl (cI, 15, .inl r3))] (va_A [(h0, .inr (6, [.ref h2, .ref kthis_video, .ref kthis_audio, .ref kthis_samples, .ref kthis_download, .ref h1, .ref kthis_line, .int v0_mode, .int v0_startThreshold, .int v0_lastRung, .int v0_lastChange, .int v0_state, .int v0_time, .int v0_position])), (h1, .inr (0, [.int v1_startUpTime, .int v1_stallTime, .int v1_playTime, .int v1_stalls, .int v1_abandoned, .int v1_finished, .int v1_switches, .long v1_wasted, .long v1_quality])), (h2, .inr (8, [.ref h3, .ref kthis_stream_video, .ref kthis_stream_audio, .ref kthis_stream_plan])), (h3, .inl (cI, 15, .inl r3))] sz)) 0 0 (va_A [(h0, .inr (6, [.ref h2, .ref kthis_video, .ref kthis_audio, .ref kthis_samples, .ref kthis_download, .ref h1, .ref kthis_line, .int v0_mode, .int v0_startThreshold, .int v0_lastRung, .int v0_lastChange, .int v0_state, .int v0_time, .int v0_position])), (h1, .inr (0, [.int v1_startUpTime, .int v1_stallTime, .int v1_playTime, .int v1_stalls, .int v1_abandoned, .int v1_finished, .int v1_switches, .long v1_wasted, .long v1_quality])), (h2, .inr (8, [.ref h3, .ref kthis_stream_video, .ref kthis_stream_audio, .ref kthis_stream_plan])), (h3, .inl (cI, 15, .inl r3))] sz) := by
  refine metW (own := RX6) (by decide) rfl (Nat.le_of_ble_eq_true rfl) ?_
  intro p e s m below meth c S hr hlk hP hK A hAe hD hA hS ls hl
  clear hAe
  have hx := S.1
  have hb := S.2.1
  have hl : lv_has ls 1 [(0, .ref h0)] := hl
  refine lv_aload_n hx hb dX6_leavePlaying_0 rfl (lv_at hl 0 rfl) ?_
  refine gf_X6_82 (v := .int v0_position) S hK hP 0 rfl rfl dX6_leavePlaying_1 ?_
  refine lv_aload_n hx hb dX6_leavePlaying_4 rfl (lv_at hl 0 rfl) ?_
  refine gf_X6_53 (v := .ref h2) S hK hP 0 rfl rfl dX6_leavePlaying_5 ?_
  refine lv_iconst (v := 1) hx hb dX6_leavePlaying_8 li_1 ?_
  refine rdV (pc1 := 12) (rest := [.int v0_position]) (st1 := [.int (f_X8_valueOf r3 1), .int v0_position]) S (c_X8_valueOf l D cI cJ cC h2 h3 kthis_stream_video kthis_stream_audio kthis_stream_plan r3 1 _ rfl) (cw_X6_176 S.2.2.2.2 ⟨Nat.le_of_ble_eq_true rfl, Nat.le_of_ble_eq_true rfl⟩) hK (hP.sub [2, 3] rfl) rfl rfl rfl rfl hl.1 rfl (Nat.le_of_ble_eq_true rfl) ⟨Nat.zero_le _, Nat.zero_le _⟩ rfl rfl dX6_leavePlaying_9 ?_
  refine lv_aload_n hx hb dX6_leavePlaying_12 rfl (lv_at hl 0 rfl) ?_
  refine gf_X6_53 (v := .ref h2) S hK hP 0 rfl rfl dX6_leavePlaying_13 ?_
  refine lv_iconst (v := 0) hx hb dX6_leavePlaying_16 li_0 ?_
  refine rdV (pc1 := 20) (rest := [.int (f_X8_valueOf r3 1), .int v0_position]) (st1 := [.int (f_X8_valueOf r3 0), .int (f_X8_valueOf r3 1), .int v0_position]) S (c_X8_valueOf l D cI cJ cC h2 h3 kthis_stream_video kthis_stream_audio kthis_stream_plan r3 0 _ rfl) (cw_X6_176 S.2.2.2.2 ⟨Nat.le_of_ble_eq_true rfl, Nat.le_of_ble_eq_true rfl⟩) hK (hP.sub [2, 3] rfl) rfl rfl rfl rfl hl.1 rfl (Nat.le_of_ble_eq_true rfl) ⟨Nat.zero_le _, Nat.zero_le _⟩ rfl rfl dX6_leavePlaying_17 ?_
  refine lv_imul hx hb dX6_leavePlaying_20 ?_
  refine lv_icmp_ne (tgt := 32) hx hb dX6_leavePlaying_21 (by decide) (fun c1 => ?_) (fun c1 => ?_)
  · have h := iteN c1 h
    refine lv_aload_n hx hb dX6_leavePlaying_32 rfl (lv_at hl 0 rfl) ?_
    refine lv_iconst (v := 3) hx hb dX6_leavePlaying_33 li_3 ?_
    refine pf_X6_49 (v := .int 3) S hK hP hD hS 0 rfl (Nat.le_of_ble_eq_true rfl) rfl dX6_leavePlaying_34 (fun H locs hP hD hS => ?_)
    have hP : va_P D vwCl [(h0, .inr (6, [.ref h2, .ref kthis_video, .ref kthis_audio, .ref kthis_samples, .ref kthis_download, .ref h1, .ref kthis_line, .int v0_mode, .int v0_startThreshold, .int v0_lastRung, .int v0_lastChange, .int 3, .int v0_time, .int v0_position])), (h1, .inr (0, [.int v1_startUpTime, .int v1_stallTime, .int v1_playTime, .int v1_stalls, .int v1_abandoned, .int v1_finished, .int v1_switches, .long v1_wasted, .long v1_quality])), (h2, .inr (8, [.ref h3, .ref kthis_stream_video, .ref kthis_stream_audio, .ref kthis_stream_plan])), (h3, .inl (cI, 15, .inl r3))] H := hP
    have hD : va_D A [(h0, .inr (6, [.ref h2, .ref kthis_video, .ref kthis_audio, .ref kthis_samples, .ref kthis_download, .ref h1, .ref kthis_line, .int v0_mode, .int v0_startThreshold, .int v0_lastRung, .int v0_lastChange, .int 3, .int v0_time, .int v0_position])), (h1, .inr (0, [.int v1_startUpTime, .int v1_stallTime, .int v1_playTime, .int v1_stalls, .int v1_abandoned, .int v1_finished, .int v1_switches, .long v1_wasted, .long v1_quality])), (h2, .inr (8, [.ref h3, .ref kthis_stream_video, .ref kthis_stream_audio, .ref kthis_stream_plan])), (h3, .inl (cI, 15, .inl r3))] := hD
    refine lv_aload_n hx hb dX6_leavePlaying_37 rfl (lv_at hl 0 rfl) ?_
    refine gf_X6_38 (v := .ref h1) S hK hP 0 rfl rfl dX6_leavePlaying_38 ?_
    refine lv_dup hx hb dX6_leavePlaying_41 rfl ?_
    refine gf_X6_274 (v := .int v1_stalls) S hK hP 1 rfl rfl dX6_leavePlaying_42 ?_
    refine lv_iconst (v := 1) hx hb dX6_leavePlaying_45 li_1 ?_
    refine lv_iadd hx hb dX6_leavePlaying_46 ?_
    refine pf_X6_274 (v := .int (v1_stalls + 1)) S hK hP hD hS 1 rfl (Nat.le_of_ble_eq_true rfl) rfl dX6_leavePlaying_47 (fun H locs hP hD hS => ?_)
    have hP : va_P D vwCl [(h0, .inr (6, [.ref h2, .ref kthis_video, .ref kthis_audio, .ref kthis_samples, .ref kthis_download, .ref h1, .ref kthis_line, .int v0_mode, .int v0_startThreshold, .int v0_lastRung, .int v0_lastChange, .int 3, .int v0_time, .int v0_position])), (h1, .inr (0, [.int v1_startUpTime, .int v1_stallTime, .int v1_playTime, .int (v1_stalls + 1), .int v1_abandoned, .int v1_finished, .int v1_switches, .long v1_wasted, .long v1_quality])), (h2, .inr (8, [.ref h3, .ref kthis_stream_video, .ref kthis_stream_audio, .ref kthis_stream_plan])), (h3, .inl (cI, 15, .inl r3))] H := hP
    have hD : va_D A [(h0, .inr (6, [.ref h2, .ref kthis_video, .ref kthis_audio, .ref kthis_samples, .ref kthis_download, .ref h1, .ref kthis_line, .int v0_mode, .int v0_startThreshold, .int v0_lastRung, .int v0_lastChange, .int 3, .int v0_time, .int v0_position])), (h1, .inr (0, [.int v1_startUpTime, .int v1_stallTime, .int v1_playTime, .int (v1_stalls + 1), .int v1_abandoned, .int v1_finished, .int v1_switches, .long v1_wasted, .long v1_quality])), (h2, .inr (8, [.ref h3, .ref kthis_stream_video, .ref kthis_stream_audio, .ref kthis_stream_plan])), (h3, .inl (cI, 15, .inl r3))] := hD
    subst h
    exact wRv S hr hlk (hP.sub [0, 1, 2, 3] rfl) (hD.sub [0, 1, 2, 3] (by decide) rfl) hS dX6_leavePlaying_50
  · have h := iteP c1 h
    refine lv_aload_n hx hb dX6_leavePlaying_24 rfl (lv_at hl 0 rfl) ?_
    refine lv_iconst (v := 4) hx hb dX6_leavePlaying_25 li_4 ?_
    refine pf_X6_49 (v := .int 4) S hK hP hD hS 0 rfl (Nat.le_of_ble_eq_true rfl) rfl dX6_leavePlaying_26 (fun H locs hP hD hS => ?_)
    have hP : va_P D vwCl [(h0, .inr (6, [.ref h2, .ref kthis_video, .ref kthis_audio, .ref kthis_samples, .ref kthis_download, .ref h1, .ref kthis_line, .int v0_mode, .int v0_startThreshold, .int v0_lastRung, .int v0_lastChange, .int 4, .int v0_time, .int v0_position])), (h1, .inr (0, [.int v1_startUpTime, .int v1_stallTime, .int v1_playTime, .int v1_stalls, .int v1_abandoned, .int v1_finished, .int v1_switches, .long v1_wasted, .long v1_quality])), (h2, .inr (8, [.ref h3, .ref kthis_stream_video, .ref kthis_stream_audio, .ref kthis_stream_plan])), (h3, .inl (cI, 15, .inl r3))] H := hP
    have hD : va_D A [(h0, .inr (6, [.ref h2, .ref kthis_video, .ref kthis_audio, .ref kthis_samples, .ref kthis_download, .ref h1, .ref kthis_line, .int v0_mode, .int v0_startThreshold, .int v0_lastRung, .int v0_lastChange, .int 4, .int v0_time, .int v0_position])), (h1, .inr (0, [.int v1_startUpTime, .int v1_stallTime, .int v1_playTime, .int v1_stalls, .int v1_abandoned, .int v1_finished, .int v1_switches, .long v1_wasted, .long v1_quality])), (h2, .inr (8, [.ref h3, .ref kthis_stream_video, .ref kthis_stream_audio, .ref kthis_stream_plan])), (h3, .inl (cI, 15, .inl r3))] := hD
    refine lv_goto (tgt := 50) hx hb dX6_leavePlaying_29 (by decide) ?_
    subst h
    exact wRv S hr hlk (hP.sub [0, 1, 2, 3] rfl) (hD.sub [0, 1, 2, 3] (by decide) rfl) hS dX6_leavePlaying_50
abbrev rm_X6_behindLive : Room := { frames := 1, cells := 0, slots := 0, locals := 21 }
theorem dX6_behindLive_0 : decode cX6_behindLive 0 = .ok (.aload_n 0, 1) := by decide +kernel
theorem dX6_behindLive_1 : decode cX6_behindLive 1 = .ok (.getfield 79, 3) := by decide +kernel
theorem dX6_behindLive_4 : decode cX6_behindLive 4 = .ok (.aload_n 0, 1) := by decide +kernel
theorem dX6_behindLive_5 : decode cX6_behindLive 5 = .ok (.getfield 53, 3) := by decide +kernel
theorem dX6_behindLive_8 : decode cX6_behindLive 8 = .ok (.bipush 13, 2) := by decide +kernel
theorem dX6_behindLive_10 : decode cX6_behindLive 10 = .ok (.invokevirtual 176, 3) := by decide +kernel
theorem dX6_behindLive_13 : decode cX6_behindLive 13 = .ok (.iadd, 1) := by decide +kernel
theorem dX6_behindLive_14 : decode cX6_behindLive 14 = .ok (.aload_n 0, 1) := by decide +kernel
theorem dX6_behindLive_15 : decode cX6_behindLive 15 = .ok (.getfield 82, 3) := by decide +kernel
theorem dX6_behindLive_18 : decode cX6_behindLive 18 = .ok (.isub, 1) := by decide +kernel
theorem dX6_behindLive_19 : decode cX6_behindLive 19 = .ok (.ireturn, 1) := by decide +kernel
def f_X6_behindLive (v0_time v0_position : Int32) (r2 : Nat → Int32) : Int32 :=
  (v0_time + (f_X8_valueOf r2 13)) - v0_position
set_option maxHeartbeats 4000000 in
set_option maxRecDepth 100000 in
theorem c_X6_behindLive (l : Launch) (D : va_G) (cI cJ cC : ClassId) (h0 h1 h2 kthis_video kthis_audio kthis_samples kthis_download kthis_accounts kthis_line kthis_stream_video kthis_stream_audio kthis_stream_plan : Nat) (v0_mode v0_startThreshold v0_lastRung v0_lastChange v0_state v0_time v0_position : Int32) (r2 : Nat → Int32)  (t0 : Int32) (h : f_X6_behindLive v0_time v0_position r2 = t0) : Met l yX6_behindLive (Cond.code yX6_behindLive cX6_behindLive 1 (some .int) :: TB) rm_X6_behindLive (PreR D cI cJ cC [(h0, .inr (6, [.ref h1, .ref kthis_video, .ref kthis_audio, .ref kthis_samples, .ref kthis_download, .ref kthis_accounts, .ref kthis_line, .int v0_mode, .int v0_startThreshold, .int v0_lastRung, .int v0_lastChange, .int v0_state, .int v0_time, .int v0_position])), (h1, .inr (8, [.ref h2, .ref kthis_stream_video, .ref kthis_stream_audio, .ref kthis_stream_plan])), (h2, .inl (cI, 15, .inl r2))] [.ref h0]) (QR (some (.int t0))) 0 0 free0 := by
  refine metR (own := RX6) (by decide) rfl (Nat.le_of_ble_eq_true rfl) ?_
  intro p e s m below meth c S hr hlk hP hK ls hl
  have hx := S.1
  have hb := S.2.1
  have hl : lv_has ls 1 [(0, .ref h0)] := hl
  refine lv_aload_n hx hb dX6_behindLive_0 rfl (lv_at hl 0 rfl) ?_
  refine gf_X6_79 (v := .int v0_time) S hK hP 0 rfl rfl dX6_behindLive_1 ?_
  refine lv_aload_n hx hb dX6_behindLive_4 rfl (lv_at hl 0 rfl) ?_
  refine gf_X6_53 (v := .ref h1) S hK hP 0 rfl rfl dX6_behindLive_5 ?_
  refine lv_bipush (v := 13) hx hb dX6_behindLive_8 lb_13 ?_
  refine rdV (pc1 := 13) (rest := [.int v0_time]) (st1 := [.int (f_X8_valueOf r2 13), .int v0_time]) S (c_X8_valueOf l D cI cJ cC h1 h2 kthis_stream_video kthis_stream_audio kthis_stream_plan r2 13 _ rfl) (cw_X6_176 S.2.2.2.2 ⟨Nat.le_of_ble_eq_true rfl, Nat.le_of_ble_eq_true rfl⟩) hK (hP.sub [1, 2] rfl) rfl rfl rfl rfl hl.1 rfl (Nat.le_of_ble_eq_true rfl) ⟨Nat.zero_le _, Nat.zero_le _⟩ rfl rfl dX6_behindLive_10 ?_
  refine lv_iadd hx hb dX6_behindLive_13 ?_
  refine lv_aload_n hx hb dX6_behindLive_14 rfl (lv_at hl 0 rfl) ?_
  refine gf_X6_82 (v := .int v0_position) S hK hP 0 rfl rfl dX6_behindLive_15 ?_
  refine lv_isub hx hb dX6_behindLive_18 ?_
  subst h
  exact rRi S hr hlk dX6_behindLive_19
