abbrev rm_X4_isFull : Room := { frames := 0, cells := 0, slots := 0, locals := 0 }
theorem dX4_isFull_0 : decode cX4_isFull 0 = .ok (.aload_n 0, 1) := by decide +kernel
theorem dX4_isFull_1 : decode cX4_isFull 1 = .ok (.getfield 18, 3) := by decide +kernel
theorem dX4_isFull_4 : decode cX4_isFull 4 = .ok (.aload_n 0, 1) := by decide +kernel
theorem dX4_isFull_5 : decode cX4_isFull 5 = .ok (.getfield 9, 3) := by decide +kernel
theorem dX4_isFull_8 : decode cX4_isFull 8 = .ok (.arraylength, 1) := by decide +kernel
theorem dX4_isFull_9 : decode cX4_isFull 9 = .ok (.if_icmp .ge 15, 3) := by decide +kernel
theorem dX4_isFull_12 : decode cX4_isFull 12 = .ok (.aload_n 0, 1) := by decide +kernel
theorem dX4_isFull_13 : decode cX4_isFull 13 = .ok (.getfield 18, 3) := by decide +kernel
theorem dX4_isFull_16 : decode cX4_isFull 16 = .ok (.aload_n 0, 1) := by decide +kernel
theorem dX4_isFull_17 : decode cX4_isFull 17 = .ok (.getfield 15, 3) := by decide +kernel
theorem dX4_isFull_20 : decode cX4_isFull 20 = .ok (.arraylength, 1) := by decide +kernel
theorem dX4_isFull_21 : decode cX4_isFull 21 = .ok (.if_icmp .lt 7, 3) := by decide +kernel
theorem dX4_isFull_24 : decode cX4_isFull 24 = .ok (.iconst 1, 1) := by decide +kernel
theorem dX4_isFull_25 : decode cX4_isFull 25 = .ok (.goto 4, 3) := by decide +kernel
theorem dX4_isFull_28 : decode cX4_isFull 28 = .ok (.iconst 0, 1) := by decide +kernel
theorem dX4_isFull_29 : decode cX4_isFull 29 = .ok (.ireturn, 1) := by decide +kernel
theorem gf_X4_18 {p : Program} {l : Launch} {e : Env} {R : Room} {s : State} {m : MethodId} {args : Array Value} {below : List Frame} {meth : Method} {c : Code} {H : Heap} {locs : List Loc} {cells slots : Nat} {Q : State → Prop} {cc : ByteArray} {pc nL : Nat} {ls : Array Slot} {rest : List Value} {D : va_G} {ws : va_W} {tys : List (ClassId × FieldType)} (S : CallFix p m c cc nL s args TB RX4) (hK : va_K D vwCl tys s) (hP : va_P D vwCl ws H) (q0 : Nat) {a : Nat} {fs : List Value} (he : ws[q0]? = some (a, .inr (4, fs))) {v : Value} (hv : fs[3]? = some v) (hdg : decode cc pc = .ok (.getfield 18, 3))
    (kk : W p l e R s m args below meth c H locs cells slots Q (F0 m (pc + 3) ls (v :: rest))) : W p l e R s m args below meth c H locs cells slots Q (F0 m pc ls (.ref a :: rest)) :=
  va_get (D := D) (ci := 4) (C := RX4) (T := TX4) (N := 4) S.1 S.2.1 S.2.2.2.2 iwX4 S.2.2.2.1 hK hP q0 he rfl 3 (by decide) (S.2.2.2.2 _ tb86) (fun _ h9 => h9) hv hdg kk
theorem gf_X4_9 {p : Program} {l : Launch} {e : Env} {R : Room} {s : State} {m : MethodId} {args : Array Value} {below : List Frame} {meth : Method} {c : Code} {H : Heap} {locs : List Loc} {cells slots : Nat} {Q : State → Prop} {cc : ByteArray} {pc nL : Nat} {ls : Array Slot} {rest : List Value} {D : va_G} {ws : va_W} {tys : List (ClassId × FieldType)} (S : CallFix p m c cc nL s args TB RX4) (hK : va_K D vwCl tys s) (hP : va_P D vwCl ws H) (q0 : Nat) {a : Nat} {fs : List Value} (he : ws[q0]? = some (a, .inr (4, fs))) {v : Value} (hv : fs[0]? = some v) (hdg : decode cc pc = .ok (.getfield 9, 3))
    (kk : W p l e R s m args below meth c H locs cells slots Q (F0 m (pc + 3) ls (v :: rest))) : W p l e R s m args below meth c H locs cells slots Q (F0 m pc ls (.ref a :: rest)) :=
  va_get (D := D) (ci := 4) (C := RX4) (T := TX4) (N := 4) S.1 S.2.1 S.2.2.2.2 iwX4 S.2.2.2.1 hK hP q0 he rfl 0 (by decide) (S.2.2.2.2 _ tb83) (fun _ h9 => h9) hv hdg kk
theorem gf_X4_15 {p : Program} {l : Launch} {e : Env} {R : Room} {s : State} {m : MethodId} {args : Array Value} {below : List Frame} {meth : Method} {c : Code} {H : Heap} {locs : List Loc} {cells slots : Nat} {Q : State → Prop} {cc : ByteArray} {pc nL : Nat} {ls : Array Slot} {rest : List Value} {D : va_G} {ws : va_W} {tys : List (ClassId × FieldType)} (S : CallFix p m c cc nL s args TB RX4) (hK : va_K D vwCl tys s) (hP : va_P D vwCl ws H) (q0 : Nat) {a : Nat} {fs : List Value} (he : ws[q0]? = some (a, .inr (4, fs))) {v : Value} (hv : fs[1]? = some v) (hdg : decode cc pc = .ok (.getfield 15, 3))
    (kk : W p l e R s m args below meth c H locs cells slots Q (F0 m (pc + 3) ls (v :: rest))) : W p l e R s m args below meth c H locs cells slots Q (F0 m pc ls (.ref a :: rest)) :=
  va_get (D := D) (ci := 4) (C := RX4) (T := TX4) (N := 4) S.1 S.2.1 S.2.2.2.2 iwX4 S.2.2.2.1 hK hP q0 he rfl 1 (by decide) (S.2.2.2.2 _ tb84) (fun _ h9 => h9) hv hdg kk
def f_X4_isFull (v0_phases : Int32) : Int32 :=
  if 20 ≤ v0_phases then
    1
  else
    if v0_phases < 20 then
      0
    else
      1
set_option maxHeartbeats 4000000 in
set_option maxRecDepth 100000 in
theorem c_X4_isFull (l : Launch) (D : va_G) (cI cJ cC : ClassId) (h0 h1 h2 : Nat) (v0_total v0_phases : Int32) (r1 r2 : Nat → Int32)  (t0 : Int32) (h : f_X4_isFull v0_phases = t0) : Met l yX4_isFull (Cond.code yX4_isFull cX4_isFull 1 (some .boolean) :: TB) rm_X4_isFull (PreR D cI cJ cC [(h0, .inr (4, [.ref h1, .ref h2, .int v0_total, .int v0_phases])), (h1, .inl (cI, 20, .inl r1)), (h2, .inl (cI, 20, .inl r2))] [.ref h0]) (QR (some (.int t0))) 0 0 free0 := by
  refine metR (own := RX4) (by decide) rfl (Nat.le_of_ble_eq_true rfl) ?_
  intro p e s m below meth c S hr hlk hP hK ls hl
  have hx := S.1
  have hb := S.2.1
  have hl : lv_has ls 1 [(0, .ref h0)] := hl
  refine lv_aload_n hx hb dX4_isFull_0 rfl (lv_at hl 0 rfl) ?_
  refine gf_X4_18 (v := .int v0_phases) S hK hP 0 rfl rfl dX4_isFull_1 ?_
  refine lv_aload_n hx hb dX4_isFull_4 rfl (lv_at hl 0 rfl) ?_
  refine gf_X4_9 (v := .ref h1) S hK hP 0 rfl rfl dX4_isFull_5 ?_
  refine va_alen hx hb hK hP 1 0 rfl rfl (v := 20) rfl dX4_isFull_8 ?_
  refine lv_icmp_ge (tgt := 24) hx hb dX4_isFull_9 (by decide) (fun c1 => ?_) (fun c1 => ?_)
  · have h := iteP c1 h
    refine lv_iconst (v := 1) hx hb dX4_isFull_24 li_1 ?_
    refine lv_goto (tgt := 29) hx hb dX4_isFull_25 (by decide) ?_
    subst h
    exact rRz S hr hlk (by decide) dX4_isFull_29
  · have h := iteN c1 h
    refine lv_aload_n hx hb dX4_isFull_12 rfl (lv_at hl 0 rfl) ?_
    refine gf_X4_18 (v := .int v0_phases) S hK hP 0 rfl rfl dX4_isFull_13 ?_
    refine lv_aload_n hx hb dX4_isFull_16 rfl (lv_at hl 0 rfl) ?_
    refine gf_X4_15 (v := .ref h2) S hK hP 0 rfl rfl dX4_isFull_17 ?_
    refine va_alen hx hb hK hP 2 0 rfl rfl (v := 20) rfl dX4_isFull_20 ?_
    refine lv_icmp_lt (tgt := 28) hx hb dX4_isFull_21 (by decide) (fun c2 => ?_) (fun c2 => ?_)
    · have h := iteP c2 h
      refine lv_iconst (v := 0) hx hb dX4_isFull_28 li_0 ?_
      subst h
      exact rRz S hr hlk (by decide) dX4_isFull_29
    · have h := iteN c2 h
      refine lv_iconst (v := 1) hx hb dX4_isFull_24 li_1 ?_
      refine lv_goto (tgt := 29) hx hb dX4_isFull_25 (by decide) ?_
      subst h
      exact rRz S hr hlk (by decide) dX4_isFull_29
abbrev rm_X4_append : Room := { frames := 0, cells := 0, slots := 0, locals := 0 }
theorem dX4_append_0 : decode cX4_append 0 = .ok (.aload_n 0, 1) := by decide +kernel
theorem dX4_append_1 : decode cX4_append 1 = .ok (.getfield 18, 3) := by decide +kernel
theorem dX4_append_4 : decode cX4_append 4 = .ok (.ifCond .lt 67, 3) := by decide +kernel
theorem dX4_append_7 : decode cX4_append 7 = .ok (.aload_n 0, 1) := by decide +kernel
theorem dX4_append_8 : decode cX4_append 8 = .ok (.getfield 18, 3) := by decide +kernel
theorem dX4_append_11 : decode cX4_append 11 = .ok (.aload_n 0, 1) := by decide +kernel
theorem dX4_append_12 : decode cX4_append 12 = .ok (.getfield 9, 3) := by decide +kernel
theorem dX4_append_15 : decode cX4_append 15 = .ok (.arraylength, 1) := by decide +kernel
theorem dX4_append_16 : decode cX4_append 16 = .ok (.if_icmp .ge 55, 3) := by decide +kernel
theorem dX4_append_19 : decode cX4_append 19 = .ok (.aload_n 0, 1) := by decide +kernel
theorem dX4_append_20 : decode cX4_append 20 = .ok (.getfield 18, 3) := by decide +kernel
theorem dX4_append_23 : decode cX4_append 23 = .ok (.aload_n 0, 1) := by decide +kernel
theorem dX4_append_24 : decode cX4_append 24 = .ok (.getfield 15, 3) := by decide +kernel
theorem dX4_append_27 : decode cX4_append 27 = .ok (.arraylength, 1) := by decide +kernel
theorem dX4_append_28 : decode cX4_append 28 = .ok (.if_icmp .ge 43, 3) := by decide +kernel
theorem dX4_append_31 : decode cX4_append 31 = .ok (.aload_n 0, 1) := by decide +kernel
theorem dX4_append_32 : decode cX4_append 32 = .ok (.getfield 9, 3) := by decide +kernel
theorem dX4_append_35 : decode cX4_append 35 = .ok (.aload_n 0, 1) := by decide +kernel
theorem dX4_append_36 : decode cX4_append 36 = .ok (.getfield 18, 3) := by decide +kernel
theorem dX4_append_39 : decode cX4_append 39 = .ok (.iload_n 1, 1) := by decide +kernel
theorem dX4_append_40 : decode cX4_append 40 = .ok (.iastore, 1) := by decide +kernel
theorem dX4_append_41 : decode cX4_append 41 = .ok (.aload_n 0, 1) := by decide +kernel
theorem dX4_append_42 : decode cX4_append 42 = .ok (.getfield 15, 3) := by decide +kernel
theorem dX4_append_45 : decode cX4_append 45 = .ok (.aload_n 0, 1) := by decide +kernel
theorem dX4_append_46 : decode cX4_append 46 = .ok (.getfield 18, 3) := by decide +kernel
theorem dX4_append_49 : decode cX4_append 49 = .ok (.iload_n 2, 1) := by decide +kernel
theorem dX4_append_50 : decode cX4_append 50 = .ok (.iastore, 1) := by decide +kernel
theorem dX4_append_51 : decode cX4_append 51 = .ok (.aload_n 0, 1) := by decide +kernel
theorem dX4_append_52 : decode cX4_append 52 = .ok (.dup, 1) := by decide +kernel
theorem dX4_append_53 : decode cX4_append 53 = .ok (.getfield 22, 3) := by decide +kernel
theorem dX4_append_56 : decode cX4_append 56 = .ok (.iload_n 1, 1) := by decide +kernel
theorem dX4_append_57 : decode cX4_append 57 = .ok (.iadd, 1) := by decide +kernel
theorem dX4_append_58 : decode cX4_append 58 = .ok (.putfield 22, 3) := by decide +kernel
theorem dX4_append_61 : decode cX4_append 61 = .ok (.aload_n 0, 1) := by decide +kernel
theorem dX4_append_62 : decode cX4_append 62 = .ok (.dup, 1) := by decide +kernel
theorem dX4_append_63 : decode cX4_append 63 = .ok (.getfield 18, 3) := by decide +kernel
theorem dX4_append_66 : decode cX4_append 66 = .ok (.iconst 1, 1) := by decide +kernel
theorem dX4_append_67 : decode cX4_append 67 = .ok (.iadd, 1) := by decide +kernel
theorem dX4_append_68 : decode cX4_append 68 = .ok (.putfield 18, 3) := by decide +kernel
theorem dX4_append_71 : decode cX4_append 71 = .ok (.aload_n 0, 1) := by decide +kernel
theorem dX4_append_72 : decode cX4_append 72 = .ok (.getfield 18, 3) := by decide +kernel
theorem dX4_append_75 : decode cX4_append 75 = .ok (.ireturn, 1) := by decide +kernel
theorem gf_X4_22 {p : Program} {l : Launch} {e : Env} {R : Room} {s : State} {m : MethodId} {args : Array Value} {below : List Frame} {meth : Method} {c : Code} {H : Heap} {locs : List Loc} {cells slots : Nat} {Q : State → Prop} {cc : ByteArray} {pc nL : Nat} {ls : Array Slot} {rest : List Value} {D : va_G} {ws : va_W} {tys : List (ClassId × FieldType)} (S : CallFix p m c cc nL s args TB RX4) (hK : va_K D vwCl tys s) (hP : va_P D vwCl ws H) (q0 : Nat) {a : Nat} {fs : List Value} (he : ws[q0]? = some (a, .inr (4, fs))) {v : Value} (hv : fs[2]? = some v) (hdg : decode cc pc = .ok (.getfield 22, 3))
    (kk : W p l e R s m args below meth c H locs cells slots Q (F0 m (pc + 3) ls (v :: rest))) : W p l e R s m args below meth c H locs cells slots Q (F0 m pc ls (.ref a :: rest)) :=
  va_get (D := D) (ci := 4) (C := RX4) (T := TX4) (N := 4) S.1 S.2.1 S.2.2.2.2 iwX4 S.2.2.2.1 hK hP q0 he rfl 2 (by decide) (S.2.2.2.2 _ tb85) (fun _ h9 => h9) hv hdg kk
theorem pf_X4_22 {p : Program} {l : Launch} {e : Env} {R : Room} {s : State} {m : MethodId} {args : Array Value} {below : List Frame} {meth : Method} {c : Code} {H H0 : Heap} {locs : List Loc} {cells slots : Nat} {Q : State → Prop} {cc : ByteArray} {pc nL : Nat} {ls : Array Slot} {rest : List Value} {D : va_G} {ws : va_W} {tys : List (ClassId × FieldType)} {A : Nat → Prop} {x9 : Int32} {v : Value} (S : CallFix p m c cc nL s args TB RX4) (hK : va_K D vwCl tys s) (hP : va_P D vwCl ws H) (hD : va_D A ws) (hS : va_S A H0 H locs) (q0 : Nat) {a : Nat} {fs : List Value} (he : ws[q0]? = some (a, .inr (4, fs))) (hle : 2 < fs.length) (hv9 : v = .int x9) (hdg : decode cc pc = .ok (.putfield 22, 3))
    (kk : ∀ (H1 : Heap) (locs1 : List Loc), va_P D vwCl (ws.set q0 (a, .inr (4, fs.set 2 v))) H1 → va_D A (ws.set q0 (a, .inr (4, fs.set 2 v))) → va_S A H0 H1 locs1 → W p l e R s m args below meth c H1 locs1 cells slots Q (F0 m (pc + 3) ls rest)) : W p l e R s m args below meth c H locs cells slots Q (F0 m pc ls (v :: .ref a :: rest)) := by
  subst hv9
  exact va_put (D := D) (ci := 4) (ty := .int) (C := RX4) (T := TX4) (N := 4) S.1 S.2.1 S.2.2.2.2 iwX4 tyX4 tyX4_ok nmX4 S.2.2.2.1 hK hP hD hS q0 he rfl 2 (by decide) (S.2.2.2.2 _ tb85) (fun _ h9 => h9) rfl (by decide +kernel) rfl rfl hle hdg kk
theorem pf_X4_18 {p : Program} {l : Launch} {e : Env} {R : Room} {s : State} {m : MethodId} {args : Array Value} {below : List Frame} {meth : Method} {c : Code} {H H0 : Heap} {locs : List Loc} {cells slots : Nat} {Q : State → Prop} {cc : ByteArray} {pc nL : Nat} {ls : Array Slot} {rest : List Value} {D : va_G} {ws : va_W} {tys : List (ClassId × FieldType)} {A : Nat → Prop} {x9 : Int32} {v : Value} (S : CallFix p m c cc nL s args TB RX4) (hK : va_K D vwCl tys s) (hP : va_P D vwCl ws H) (hD : va_D A ws) (hS : va_S A H0 H locs) (q0 : Nat) {a : Nat} {fs : List Value} (he : ws[q0]? = some (a, .inr (4, fs))) (hle : 3 < fs.length) (hv9 : v = .int x9) (hdg : decode cc pc = .ok (.putfield 18, 3))
    (kk : ∀ (H1 : Heap) (locs1 : List Loc), va_P D vwCl (ws.set q0 (a, .inr (4, fs.set 3 v))) H1 → va_D A (ws.set q0 (a, .inr (4, fs.set 3 v))) → va_S A H0 H1 locs1 → W p l e R s m args below meth c H1 locs1 cells slots Q (F0 m (pc + 3) ls rest)) : W p l e R s m args below meth c H locs cells slots Q (F0 m pc ls (v :: .ref a :: rest)) := by
  subst hv9
  exact va_put (D := D) (ci := 4) (ty := .int) (C := RX4) (T := TX4) (N := 4) S.1 S.2.1 S.2.2.2.2 iwX4 tyX4 tyX4_ok nmX4 S.2.2.2.1 hK hP hD hS q0 he rfl 3 (by decide) (S.2.2.2.2 _ tb86) (fun _ h9 => h9) rfl (by decide +kernel) rfl rfl hle hdg kk
def f_X4_append (v0_total v0_phases : Int32) (r1 r2 : Nat → Int32) (p0 p1 : Int32) : Int32 × Int32 × Int32 × (Nat → Int32) × (Nat → Int32) :=
  if v0_phases < 0 then
    (v0_phases, v0_total, v0_phases, r1, r2)
  else
    if 20 ≤ v0_phases then
      (v0_phases, v0_total, v0_phases, r1, r2)
    else
      if 20 ≤ v0_phases then
        (v0_phases, v0_total, v0_phases, r1, r2)
      else
        bnd (upd r1 v0_phases.toNatClampNeg p0) fun (u4 : Nat → Int32) =>
        bnd (upd r2 v0_phases.toNatClampNeg p1) fun (u5 : Nat → Int32) =>
        (v0_phases + 1, v0_total + p0, v0_phases + 1, u4, u5)
set_option maxHeartbeats 4000000 in
set_option maxRecDepth 100000 in
theorem c_X4_append (l : Launch) (D : va_G) (cI cJ cC : ClassId) (h0 h1 h2 : Nat) (v0_total v0_phases : Int32) (r1 r2 : Nat → Int32) (sz : Nat) (p0 p1 : Int32) (T : Int32 × Int32 × Int32 × (Nat → Int32) × (Nat → Int32)) (h : f_X4_append v0_total v0_phases r1 r2 p0 p1 = T) : Met l yX4_append (Cond.code yX4_append cX4_append 3 (some .int) :: TB) rm_X4_append (PreW D cI cJ cC [(h0, .inr (4, [.ref h1, .ref h2, .int v0_total, .int v0_phases])), (h1, .inl (cI, 20, .inl r1)), (h2, .inl (cI, 20, .inl r2))] sz [.ref h0, .int p0, .int p1]) (QW (some (.int T.1)) D [(h0, .inr (4, [.ref h1, .ref h2, .int T.2.1, .int T.2.2.1])), (h1, .inl (cI, 20, .inl T.2.2.2.1)), (h2, .inl (cI, 20, .inl T.2.2.2.2))] (va_A [(h0, .inr (4, [.ref h1, .ref h2, .int v0_total, .int v0_phases])), (h1, .inl (cI, 20, .inl r1)), (h2, .inl (cI, 20, .inl r2))] sz)) 0 0 (va_A [(h0, .inr (4, [.ref h1, .ref h2, .int v0_total, .int v0_phases])), (h1, .inl (cI, 20, .inl r1)), (h2, .inl (cI, 20, .inl r2))] sz) := by
  refine metW (own := RX4) (by decide) rfl (Nat.le_of_ble_eq_true rfl) ?_
  intro p e s m below meth c S hr hlk hP hK A hAe hD hA hS ls hl
  clear hAe
  have hx := S.1
  have hb := S.2.1
  have hl : lv_has ls 3 [(0, .ref h0), (1, .int p0), (2, .int p1)] := hl
  refine lv_aload_n hx hb dX4_append_0 rfl (lv_at hl 0 rfl) ?_
  refine gf_X4_18 (v := .int v0_phases) S hK hP 0 rfl rfl dX4_append_1 ?_
  refine lv_if_lt (tgt := 71) hx hb dX4_append_4 (by decide) (fun c1 => ?_) (fun c1 => ?_)
  · have h := iteP c1 h
    refine lv_aload_n hx hb dX4_append_71 rfl (lv_at hl 0 rfl) ?_
    refine gf_X4_18 (v := .int v0_phases) S hK hP 0 rfl rfl dX4_append_72 ?_
    subst h
    exact wRi S hr hlk (hP.sub [0, 1, 2] rfl) (hD.sub [0, 1, 2] (by decide) rfl) hS dX4_append_75
  · have h := iteN c1 h
    refine lv_aload_n hx hb dX4_append_7 rfl (lv_at hl 0 rfl) ?_
    refine gf_X4_18 (v := .int v0_phases) S hK hP 0 rfl rfl dX4_append_8 ?_
    refine lv_aload_n hx hb dX4_append_11 rfl (lv_at hl 0 rfl) ?_
    refine gf_X4_9 (v := .ref h1) S hK hP 0 rfl rfl dX4_append_12 ?_
    refine va_alen hx hb hK hP 1 0 rfl rfl (v := 20) rfl dX4_append_15 ?_
    refine lv_icmp_ge (tgt := 71) hx hb dX4_append_16 (by decide) (fun c2 => ?_) (fun c2 => ?_)
    · have h := iteP c2 h
      refine lv_aload_n hx hb dX4_append_71 rfl (lv_at hl 0 rfl) ?_
      refine gf_X4_18 (v := .int v0_phases) S hK hP 0 rfl rfl dX4_append_72 ?_
      subst h
      exact wRi S hr hlk (hP.sub [0, 1, 2] rfl) (hD.sub [0, 1, 2] (by decide) rfl) hS dX4_append_75
    · have h := iteN c2 h
      refine lv_aload_n hx hb dX4_append_19 rfl (lv_at hl 0 rfl) ?_
      refine gf_X4_18 (v := .int v0_phases) S hK hP 0 rfl rfl dX4_append_20 ?_
      refine lv_aload_n hx hb dX4_append_23 rfl (lv_at hl 0 rfl) ?_
      refine gf_X4_15 (v := .ref h2) S hK hP 0 rfl rfl dX4_append_24 ?_
      refine va_alen hx hb hK hP 2 0 rfl rfl (v := 20) rfl dX4_append_27 ?_
      refine lv_icmp_ge (tgt := 71) hx hb dX4_append_28 (by decide) (fun c3 => ?_) (fun c3 => ?_)
      · have h := iteP c3 h
        refine lv_aload_n hx hb dX4_append_71 rfl (lv_at hl 0 rfl) ?_
        refine gf_X4_18 (v := .int v0_phases) S hK hP 0 rfl rfl dX4_append_72 ?_
        subst h
        exact wRi S hr hlk (hP.sub [0, 1, 2] rfl) (hD.sub [0, 1, 2] (by decide) rfl) hS dX4_append_75
      · have h := iteN c3 h
        refine lv_aload_n hx hb dX4_append_31 rfl (lv_at hl 0 rfl) ?_
        refine gf_X4_9 (v := .ref h1) S hK hP 0 rfl rfl dX4_append_32 ?_
        refine lv_aload_n hx hb dX4_append_35 rfl (lv_at hl 0 rfl) ?_
        refine gf_X4_18 (v := .int v0_phases) S hK hP 0 rfl rfl dX4_append_36 ?_
        refine lv_iload_n hx hb dX4_append_39 rfl (lv_at hl 1 rfl) ?_
        refine astI (k := v0_phases.toNatClampNeg) (q0 := 1) S hK hP hD hS rfl (vpb (nlt32 c1) (nle32 c3) rfl) rfl dX4_append_40 (fun H locs hP hD hS => ?_)
        have hP : va_P D vwCl [(h0, .inr (4, [.ref h1, .ref h2, .int v0_total, .int v0_phases])), (h1, .inl (cI, 20, .inl (upd r1 v0_phases.toNatClampNeg p0))), (h2, .inl (cI, 20, .inl r2))] H := hP
        have hD : va_D A [(h0, .inr (4, [.ref h1, .ref h2, .int v0_total, .int v0_phases])), (h1, .inl (cI, 20, .inl (upd r1 v0_phases.toNatClampNeg p0))), (h2, .inl (cI, 20, .inl r2))] := hD
        obtain ⟨u4, e_u4⟩ : ∃ z, z = upd r1 v0_phases.toNatClampNeg p0 := ⟨_, rfl⟩
        rw [← e_u4] at hP hD
        have h := bnd_eq e_u4.symm h
        refine lv_aload_n hx hb dX4_append_41 rfl (lv_at hl 0 rfl) ?_
        refine gf_X4_15 (v := .ref h2) S hK hP 0 rfl rfl dX4_append_42 ?_
        refine lv_aload_n hx hb dX4_append_45 rfl (lv_at hl 0 rfl) ?_
        refine gf_X4_18 (v := .int v0_phases) S hK hP 0 rfl rfl dX4_append_46 ?_
        refine lv_iload_n hx hb dX4_append_49 rfl (lv_at hl 2 rfl) ?_
        refine astI (k := v0_phases.toNatClampNeg) (q0 := 2) S hK hP hD hS rfl (vpb (nlt32 c1) (nle32 c3) rfl) rfl dX4_append_50 (fun H locs hP hD hS => ?_)
        have hP : va_P D vwCl [(h0, .inr (4, [.ref h1, .ref h2, .int v0_total, .int v0_phases])), (h1, .inl (cI, 20, .inl u4)), (h2, .inl (cI, 20, .inl (upd r2 v0_phases.toNatClampNeg p1)))] H := hP
        have hD : va_D A [(h0, .inr (4, [.ref h1, .ref h2, .int v0_total, .int v0_phases])), (h1, .inl (cI, 20, .inl u4)), (h2, .inl (cI, 20, .inl (upd r2 v0_phases.toNatClampNeg p1)))] := hD
        obtain ⟨u5, e_u5⟩ : ∃ z, z = upd r2 v0_phases.toNatClampNeg p1 := ⟨_, rfl⟩
        rw [← e_u5] at hP hD
        have h := bnd_eq e_u5.symm h
        refine lv_aload_n hx hb dX4_append_51 rfl (lv_at hl 0 rfl) ?_
        refine lv_dup hx hb dX4_append_52 rfl ?_
        refine gf_X4_22 (v := .int v0_total) S hK hP 0 rfl rfl dX4_append_53 ?_
        refine lv_iload_n hx hb dX4_append_56 rfl (lv_at hl 1 rfl) ?_
        refine lv_iadd hx hb dX4_append_57 ?_
        refine pf_X4_22 (v := .int (v0_total + p0)) S hK hP hD hS 0 rfl (Nat.le_of_ble_eq_true rfl) rfl dX4_append_58 (fun H locs hP hD hS => ?_)
        have hP : va_P D vwCl [(h0, .inr (4, [.ref h1, .ref h2, .int (v0_total + p0), .int v0_phases])), (h1, .inl (cI, 20, .inl u4)), (h2, .inl (cI, 20, .inl u5))] H := hP
        have hD : va_D A [(h0, .inr (4, [.ref h1, .ref h2, .int (v0_total + p0), .int v0_phases])), (h1, .inl (cI, 20, .inl u4)), (h2, .inl (cI, 20, .inl u5))] := hD
        refine lv_aload_n hx hb dX4_append_61 rfl (lv_at hl 0 rfl) ?_
        refine lv_dup hx hb dX4_append_62 rfl ?_
        refine gf_X4_18 (v := .int v0_phases) S hK hP 0 rfl rfl dX4_append_63 ?_
        refine lv_iconst (v := 1) hx hb dX4_append_66 li_1 ?_
        refine lv_iadd hx hb dX4_append_67 ?_
        refine pf_X4_18 (v := .int (v0_phases + 1)) S hK hP hD hS 0 rfl (Nat.le_of_ble_eq_true rfl) rfl dX4_append_68 (fun H locs hP hD hS => ?_)
        have hP : va_P D vwCl [(h0, .inr (4, [.ref h1, .ref h2, .int (v0_total + p0), .int (v0_phases + 1)])), (h1, .inl (cI, 20, .inl u4)), (h2, .inl (cI, 20, .inl u5))] H := hP
        have hD : va_D A [(h0, .inr (4, [.ref h1, .ref h2, .int (v0_total + p0), .int (v0_phases + 1)])), (h1, .inl (cI, 20, .inl u4)), (h2, .inl (cI, 20, .inl u5))] := hD
        refine lv_aload_n hx hb dX4_append_71 rfl (lv_at hl 0 rfl) ?_
        refine gf_X4_18 (v := .int (v0_phases + 1)) S hK hP 0 rfl rfl dX4_append_72 ?_
        subst h
        exact wRi S hr hlk (hP.sub [0, 1, 2] rfl) (hD.sub [0, 1, 2] (by decide) rfl) hS dX4_append_75
abbrev rm_X4_empty : Room := { frames := 0, cells := 0, slots := 0, locals := 0 }
theorem dX4_empty_0 : decode cX4_empty 0 = .ok (.aload_n 0, 1) := by decide +kernel
theorem dX4_empty_1 : decode cX4_empty 1 = .ok (.iconst 0, 1) := by decide +kernel
theorem dX4_empty_2 : decode cX4_empty 2 = .ok (.putfield 18, 3) := by decide +kernel
theorem dX4_empty_5 : decode cX4_empty 5 = .ok (.aload_n 0, 1) := by decide +kernel
theorem dX4_empty_6 : decode cX4_empty 6 = .ok (.iconst 0, 1) := by decide +kernel
theorem dX4_empty_7 : decode cX4_empty 7 = .ok (.putfield 22, 3) := by decide +kernel
theorem dX4_empty_10 : decode cX4_empty 10 = .ok (.return_, 1) := by decide +kernel
def f_X4_empty  : Int32 × Int32 :=
  (0, 0)
set_option maxHeartbeats 4000000 in
set_option maxRecDepth 100000 in
theorem c_X4_empty (l : Launch) (D : va_G) (cI cJ cC : ClassId) (h0 kthis_lengths kthis_rates : Nat) (v0_total v0_phases : Int32) (sz : Nat)  (T : Int32 × Int32) (h : f_X4_empty = T) : Met l yX4_empty (Cond.code yX4_empty cX4_empty 1 none :: TB) rm_X4_empty (PreW D cI cJ cC [(h0, .inr (4, [.ref kthis_lengths, .ref kthis_rates, .int v0_total, .int v0_phases]))] sz [.ref h0]) (QW none D [(h0, .inr (4, [.ref kthis_lengths, .ref kthis_rates, .int T.1, .int T.2]))] (va_A [(h0, .inr (4, [.ref kthis_lengths, .ref kthis_rates, .int v0_total, .int v0_phases]))] sz)) 0 0 (va_A [(h0, .inr (4, [.ref kthis_lengths, .ref kthis_rates, .int v0_total, .int v0_phases]))] sz) := by
  refine metW (own := RX4) (by decide) rfl (Nat.le_of_ble_eq_true rfl) ?_
  intro p e s m below meth c S hr hlk hP hK A hAe hD hA hS ls hl
  clear hAe
  have hx := S.1
  have hb := S.2.1
  have hl : lv_has ls 1 [(0, .ref h0)] := hl
  refine lv_aload_n hx hb dX4_empty_0 rfl (lv_at hl 0 rfl) ?_
  refine lv_iconst (v := 0) hx hb dX4_empty_1 li_0 ?_
  refine pf_X4_18 (v := .int 0) S hK hP hD hS 0 rfl (Nat.le_of_ble_eq_true rfl) rfl dX4_empty_2 (fun H locs hP hD hS => ?_)
  have hP : va_P D vwCl [(h0, .inr (4, [.ref kthis_lengths, .ref kthis_rates, .int v0_total, .int 0]))] H := hP
  have hD : va_D A [(h0, .inr (4, [.ref kthis_lengths, .ref kthis_rates, .int v0_total, .int 0]))] := hD
  refine lv_aload_n hx hb dX4_empty_5 rfl (lv_at hl 0 rfl) ?_
  refine lv_iconst (v := 0) hx hb dX4_empty_6 li_0 ?_
  refine pf_X4_22 (v := .int 0) S hK hP hD hS 0 rfl (Nat.le_of_ble_eq_true rfl) rfl dX4_empty_7 (fun H locs hP hD hS => ?_)
  have hP : va_P D vwCl [(h0, .inr (4, [.ref kthis_lengths, .ref kthis_rates, .int 0, .int 0]))] H := hP
  have hD : va_D A [(h0, .inr (4, [.ref kthis_lengths, .ref kthis_rates, .int 0, .int 0]))] := hD
  subst h
  exact wRv S hr hlk (hP.sub [0] rfl) (hD.sub [0] (by decide) rfl) hS dX4_empty_10
abbrev rm_X4_rateAt : Room := { frames := 0, cells := 0, slots := 0, locals := 0 }
theorem dX4_rateAt_0 : decode cX4_rateAt 0 = .ok (.aload_n 0, 1) := by decide +kernel
theorem dX4_rateAt_1 : decode cX4_rateAt 1 = .ok (.getfield 22, 3) := by decide +kernel
theorem dX4_rateAt_4 : decode cX4_rateAt 4 = .ok (.ifCond .gt 5, 3) := by decide +kernel
theorem dX4_rateAt_7 : decode cX4_rateAt 7 = .ok (.iconst 0, 1) := by decide +kernel
theorem dX4_rateAt_8 : decode cX4_rateAt 8 = .ok (.ireturn, 1) := by decide +kernel
theorem dX4_rateAt_9 : decode cX4_rateAt 9 = .ok (.iload_n 1, 1) := by decide +kernel
theorem dX4_rateAt_10 : decode cX4_rateAt 10 = .ok (.aload_n 0, 1) := by decide +kernel
theorem dX4_rateAt_11 : decode cX4_rateAt 11 = .ok (.getfield 22, 3) := by decide +kernel
theorem dX4_rateAt_14 : decode cX4_rateAt 14 = .ok (.irem, 1) := by decide +kernel
theorem dX4_rateAt_15 : decode cX4_rateAt 15 = .ok (.istore_n 2, 1) := by decide +kernel
theorem dX4_rateAt_16 : decode cX4_rateAt 16 = .ok (.iconst 0, 1) := by decide +kernel
theorem dX4_rateAt_17 : decode cX4_rateAt 17 = .ok (.istore_n 3, 1) := by decide +kernel
theorem dX4_rateAt_18 : decode cX4_rateAt 18 = .ok (.iload_n 3, 1) := by decide +kernel
theorem dX4_rateAt_19 : decode cX4_rateAt 19 = .ok (.aload_n 0, 1) := by decide +kernel
theorem dX4_rateAt_20 : decode cX4_rateAt 20 = .ok (.getfield 18, 3) := by decide +kernel
theorem dX4_rateAt_23 : decode cX4_rateAt 23 = .ok (.if_icmp .ge 53, 3) := by decide +kernel
theorem dX4_rateAt_26 : decode cX4_rateAt 26 = .ok (.iload_n 3, 1) := by decide +kernel
theorem dX4_rateAt_27 : decode cX4_rateAt 27 = .ok (.aload_n 0, 1) := by decide +kernel
theorem dX4_rateAt_28 : decode cX4_rateAt 28 = .ok (.getfield 9, 3) := by decide +kernel
theorem dX4_rateAt_31 : decode cX4_rateAt 31 = .ok (.arraylength, 1) := by decide +kernel
theorem dX4_rateAt_32 : decode cX4_rateAt 32 = .ok (.if_icmp .ge 44, 3) := by decide +kernel
theorem dX4_rateAt_35 : decode cX4_rateAt 35 = .ok (.iload_n 3, 1) := by decide +kernel
theorem dX4_rateAt_36 : decode cX4_rateAt 36 = .ok (.aload_n 0, 1) := by decide +kernel
theorem dX4_rateAt_37 : decode cX4_rateAt 37 = .ok (.getfield 15, 3) := by decide +kernel
theorem dX4_rateAt_40 : decode cX4_rateAt 40 = .ok (.arraylength, 1) := by decide +kernel
theorem dX4_rateAt_41 : decode cX4_rateAt 41 = .ok (.if_icmp .ge 35, 3) := by decide +kernel
theorem dX4_rateAt_44 : decode cX4_rateAt 44 = .ok (.iload_n 2, 1) := by decide +kernel
theorem dX4_rateAt_45 : decode cX4_rateAt 45 = .ok (.aload_n 0, 1) := by decide +kernel
theorem dX4_rateAt_46 : decode cX4_rateAt 46 = .ok (.getfield 9, 3) := by decide +kernel
theorem dX4_rateAt_49 : decode cX4_rateAt 49 = .ok (.iload_n 3, 1) := by decide +kernel
theorem dX4_rateAt_50 : decode cX4_rateAt 50 = .ok (.iaload, 1) := by decide +kernel
theorem dX4_rateAt_51 : decode cX4_rateAt 51 = .ok (.if_icmp .ge 10, 3) := by decide +kernel
theorem dX4_rateAt_54 : decode cX4_rateAt 54 = .ok (.aload_n 0, 1) := by decide +kernel
theorem dX4_rateAt_55 : decode cX4_rateAt 55 = .ok (.getfield 15, 3) := by decide +kernel
theorem dX4_rateAt_58 : decode cX4_rateAt 58 = .ok (.iload_n 3, 1) := by decide +kernel
theorem dX4_rateAt_59 : decode cX4_rateAt 59 = .ok (.iaload, 1) := by decide +kernel
theorem dX4_rateAt_60 : decode cX4_rateAt 60 = .ok (.ireturn, 1) := by decide +kernel
theorem dX4_rateAt_61 : decode cX4_rateAt 61 = .ok (.iload_n 2, 1) := by decide +kernel
theorem dX4_rateAt_62 : decode cX4_rateAt 62 = .ok (.aload_n 0, 1) := by decide +kernel
theorem dX4_rateAt_63 : decode cX4_rateAt 63 = .ok (.getfield 9, 3) := by decide +kernel
theorem dX4_rateAt_66 : decode cX4_rateAt 66 = .ok (.iload_n 3, 1) := by decide +kernel
theorem dX4_rateAt_67 : decode cX4_rateAt 67 = .ok (.iaload, 1) := by decide +kernel
theorem dX4_rateAt_68 : decode cX4_rateAt 68 = .ok (.isub, 1) := by decide +kernel
theorem dX4_rateAt_69 : decode cX4_rateAt 69 = .ok (.istore_n 2, 1) := by decide +kernel
theorem dX4_rateAt_70 : decode cX4_rateAt 70 = .ok (.iinc 3 1, 3) := by decide +kernel
theorem dX4_rateAt_73 : decode cX4_rateAt 73 = .ok (.goto (-55), 3) := by decide +kernel
theorem dX4_rateAt_76 : decode cX4_rateAt 76 = .ok (.iconst 0, 1) := by decide +kernel
theorem dX4_rateAt_77 : decode cX4_rateAt 77 = .ok (.ireturn, 1) := by decide +kernel
def f_X4_rateAt_b18 (v0_phases : Int32) (r1 r2 : Nat → Int32) : Nat → Int32 → Int32 → Int32
  | 0, _, _ => 0
  | n + 1, l2, l3 =>
    if v0_phases ≤ l3 then
      0
    else
      if 20 ≤ l3 then
        0
      else
        if 20 ≤ l3 then
          0
        else
          if (r1 l3.toNatClampNeg) ≤ l2 then
            bnd (l2 - (r1 l3.toNatClampNeg)) fun (y5 : Int32) =>
            f_X4_rateAt_b18 v0_phases r1 r2 n y5 (l3 + 1)
          else
            r2 l3.toNatClampNeg
def f_X4_rateAt (v0_total v0_phases : Int32) (r1 r2 : Nat → Int32) (p0 : Int32) : Int32 :=
  if 0 < v0_total then
    f_X4_rateAt_b18 v0_phases r1 r2 ((((20 : Int32).toInt - (0 : Int32).toInt).toNat) + 1) (rm32 p0 v0_total) 0
  else
    0
set_option maxHeartbeats 4000000 in
set_option maxRecDepth 100000 in
theorem k_X4_rateAt_b18 {p : Program} {l : Launch} {e : Env} {s : State} {m : MethodId} {args : Array Value} {below : List Frame} {meth : Method} {c : Code} {D : va_G} {cI cJ cC : ClassId} {h0 h1 h2 : Nat} {v0_total v0_phases : Int32} {r1 r2 : Nat → Int32} {t0 : Int32}(S : CallFix p m c cX4_rateAt 4 s args TB RX4) (hr : meth.sig.returnType = (some .int)) (hlk : meth.locks = false) (hK : va_K D vwCl (ty3 cI cJ cC) s) (hP : va_P D vwCl [(h0, .inr (4, [.ref h1, .ref h2, .int v0_total, .int v0_phases])), (h1, .inl (cI, 20, .inl r1)), (h2, .inl (cI, 20, .inl r2))] s.heap) : ∀ (n : Nat) (l2 l3 : Int32) (ls : Array Slot), 0 ≤ l3 → ((20 : Int32).toInt - l3.toInt).toNat < n → f_X4_rateAt_b18 v0_phases r1 r2 n l2 l3 = t0 → lv_has ls 4 [(0, .ref h0), (2, .int l2), (3, .int l3)] → W p l e rm_X4_rateAt s m args below meth c s.heap [] 0 0 (MQ below (QR (some (.int t0))) args s 0 0 free0) (F0 m 18 ls []) := by
  have hx := S.1
  have hb := S.2.1
  intro n
  induction n with
  | zero => intro l2 l3 ls hi0 hmu; exact absurd hmu (Nat.not_lt_zero _)
  | succ n ih =>
    intro l2 l3 ls hi0 hmu h hl
    refine lv_iload_n hx hb dX4_rateAt_18 rfl (lv_at hl 2 rfl) ?_
    refine lv_aload_n hx hb dX4_rateAt_19 rfl (lv_at hl 0 rfl) ?_
    refine gf_X4_18 (v := .int v0_phases) S hK hP 0 rfl rfl dX4_rateAt_20 ?_
    refine lv_icmp_ge (tgt := 76) hx hb dX4_rateAt_23 (by decide) (fun c1 => ?_) (fun c1 => ?_)
    · have h := iteP c1 h
      refine lv_iconst (v := 0) hx hb dX4_rateAt_76 li_0 ?_
      subst h
      exact rRi S hr hlk dX4_rateAt_77
    · have h := iteN c1 h
      refine lv_iload_n hx hb dX4_rateAt_26 rfl (lv_at hl 2 rfl) ?_
      refine lv_aload_n hx hb dX4_rateAt_27 rfl (lv_at hl 0 rfl) ?_
      refine gf_X4_9 (v := .ref h1) S hK hP 0 rfl rfl dX4_rateAt_28 ?_
      refine va_alen hx hb hK hP 1 0 rfl rfl (v := 20) rfl dX4_rateAt_31 ?_
      refine lv_icmp_ge (tgt := 76) hx hb dX4_rateAt_32 (by decide) (fun c2 => ?_) (fun c2 => ?_)
      · have h := iteP c2 h
        refine lv_iconst (v := 0) hx hb dX4_rateAt_76 li_0 ?_
        subst h
        exact rRi S hr hlk dX4_rateAt_77
      · have h := iteN c2 h
        refine lv_iload_n hx hb dX4_rateAt_35 rfl (lv_at hl 2 rfl) ?_
        refine lv_aload_n hx hb dX4_rateAt_36 rfl (lv_at hl 0 rfl) ?_
        refine gf_X4_15 (v := .ref h2) S hK hP 0 rfl rfl dX4_rateAt_37 ?_
        refine va_alen hx hb hK hP 2 0 rfl rfl (v := 20) rfl dX4_rateAt_40 ?_
        refine lv_icmp_ge (tgt := 76) hx hb dX4_rateAt_41 (by decide) (fun c3 => ?_) (fun c3 => ?_)
        · have h := iteP c3 h
          refine lv_iconst (v := 0) hx hb dX4_rateAt_76 li_0 ?_
          subst h
          exact rRi S hr hlk dX4_rateAt_77
        · have h := iteN c3 h
          refine lv_iload_n hx hb dX4_rateAt_44 rfl (lv_at hl 1 rfl) ?_
          refine lv_aload_n hx hb dX4_rateAt_45 rfl (lv_at hl 0 rfl) ?_
          refine gf_X4_9 (v := .ref h1) S hK hP 0 rfl rfl dX4_rateAt_46 ?_
          refine lv_iload_n hx hb dX4_rateAt_49 rfl (lv_at hl 2 rfl) ?_
          refine aldI (k := l3.toNatClampNeg) (q0 := 1) S hK hP rfl (vpb hi0 (nle32 c3) rfl) rfl dX4_rateAt_50 ?_
          refine lv_icmp_ge (tgt := 61) hx hb dX4_rateAt_51 (by decide) (fun c4 => ?_) (fun c4 => ?_)
          · have h := iteP c4 h
            refine lv_iload_n hx hb dX4_rateAt_61 rfl (lv_at hl 1 rfl) ?_
            refine lv_aload_n hx hb dX4_rateAt_62 rfl (lv_at hl 0 rfl) ?_
            refine gf_X4_9 (v := .ref h1) S hK hP 0 rfl rfl dX4_rateAt_63 ?_
            refine lv_iload_n hx hb dX4_rateAt_66 rfl (lv_at hl 2 rfl) ?_
            refine aldI (k := l3.toNatClampNeg) (q0 := 1) S hK hP rfl (vpb hi0 (nle32 c3) rfl) rfl dX4_rateAt_67 ?_
            refine lv_isub hx hb dX4_rateAt_68 ?_
            refine lv_topi (fun y5 e_y5 => ?_)
            have h := bnd_eq e_y5.symm h
            refine lv_istore_n (lv' := [(2, .int y5), (0, .ref h0), (3, .int l3)]) hx hb dX4_rateAt_69 rfl hl (by decide) rfl (fun ls hl => ?_)
            refine lv_iinc (v := l3 + 1) (lv' := [(3, .int (l3 + 1)), (2, .int y5), (0, .ref h0)]) hx hb dX4_rateAt_70 hl (k := 2) rfl rfl (by decide) rfl (fun ls hl => ?_)
            refine lv_goto (tgt := 18) hx hb dX4_rateAt_73 (by decide) ?_
            exact ih y5 (l3 + 1) _ (by first | exact inc_nn hi0 (by assumption) | exact inc_nn hi0 (nle32 (by assumption))) (by first | exact mu_upA (by assumption) hmu | exact mu_upB (by assumption) hmu) h  (lv_sub hl [2, 1, 0] rfl)
          · have h := iteN c4 h
            refine lv_aload_n hx hb dX4_rateAt_54 rfl (lv_at hl 0 rfl) ?_
            refine gf_X4_15 (v := .ref h2) S hK hP 0 rfl rfl dX4_rateAt_55 ?_
            refine lv_iload_n hx hb dX4_rateAt_58 rfl (lv_at hl 2 rfl) ?_
            refine aldI (k := l3.toNatClampNeg) (q0 := 2) S hK hP rfl (vpb hi0 (nle32 c3) rfl) rfl dX4_rateAt_59 ?_
            subst h
            exact rRi S hr hlk dX4_rateAt_60
set_option maxHeartbeats 4000000 in
set_option maxRecDepth 100000 in
theorem c_X4_rateAt (l : Launch) (D : va_G) (cI cJ cC : ClassId) (h0 h1 h2 : Nat) (v0_total v0_phases : Int32) (r1 r2 : Nat → Int32) (p0 : Int32) (t0 : Int32) (h : f_X4_rateAt v0_total v0_phases r1 r2 p0 = t0) : Met l yX4_rateAt (Cond.code yX4_rateAt cX4_rateAt 4 (some .int) :: TB) rm_X4_rateAt (PreR D cI cJ cC [(h0, .inr (4, [.ref h1, .ref h2, .int v0_total, .int v0_phases])), (h1, .inl (cI, 20, .inl r1)), (h2, .inl (cI, 20, .inl r2))] [.ref h0, .int p0]) (QR (some (.int t0))) 0 0 free0 := by
  refine metR (own := RX4) (by decide) rfl (Nat.le_of_ble_eq_true rfl) ?_
  intro p e s m below meth c S hr hlk hP hK ls hl
  have hx := S.1
  have hb := S.2.1
  have hl : lv_has ls 4 [(0, .ref h0), (1, .int p0)] := hl
  refine lv_aload_n hx hb dX4_rateAt_0 rfl (lv_at hl 0 rfl) ?_
  refine gf_X4_22 (v := .int v0_total) S hK hP 0 rfl rfl dX4_rateAt_1 ?_
  refine lv_if_gt (tgt := 9) hx hb dX4_rateAt_4 (by decide) (fun c1 => ?_) (fun c1 => ?_)
  · have h := iteP c1 h
    refine lv_iload_n hx hb dX4_rateAt_9 rfl (lv_at hl 1 rfl) ?_
    refine lv_aload_n hx hb dX4_rateAt_10 rfl (lv_at hl 0 rfl) ?_
    refine gf_X4_22 (v := .int v0_total) S hK hP 0 rfl rfl dX4_rateAt_11 ?_
    refine remw_i hx hb dX4_rateAt_14 (pos_ne32 c1) ?_
    refine lv_istore_n (lv' := [(2, .int (rm32 p0 v0_total)), (0, .ref h0), (1, .int p0)]) hx hb dX4_rateAt_15 rfl hl (by decide) rfl (fun ls hl => ?_)
    refine lv_iconst (v := 0) hx hb dX4_rateAt_16 li_0 ?_
    refine lv_istore_n (lv' := [(3, .int 0), (2, .int (rm32 p0 v0_total)), (0, .ref h0), (1, .int p0)]) hx hb dX4_rateAt_17 rfl hl (by decide) rfl (fun ls hl => ?_)
    exact k_X4_rateAt_b18 S hr hlk hK hP _ (rm32 p0 v0_total) 0 _ (by decide) (Nat.lt_succ_self _) h  (lv_sub hl [2, 1, 0] rfl)
  · have h := iteN c1 h
    refine lv_iconst (v := 0) hx hb dX4_rateAt_7 li_0 ?_
    subst h
    exact rRi S hr hlk dX4_rateAt_8
