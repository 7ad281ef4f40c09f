abbrev rm_X2_isFull : Room := { frames := 0, cells := 0, slots := 0, locals := 0 }
theorem dX2_isFull_0 : decode cX2_isFull 0 = .ok (.aload_n 0, 1) := by decide +kernel
theorem dX2_isFull_1 : decode cX2_isFull 1 = .ok (.getfield 19, 3) := by decide +kernel
theorem dX2_isFull_4 : decode cX2_isFull 4 = .ok (.aload_n 0, 1) := by decide +kernel
theorem dX2_isFull_5 : decode cX2_isFull 5 = .ok (.getfield 15, 3) := by decide +kernel
theorem dX2_isFull_8 : decode cX2_isFull 8 = .ok (.if_icmp .ge 15, 3) := by decide +kernel
theorem dX2_isFull_11 : decode cX2_isFull 11 = .ok (.aload_n 0, 1) := by decide +kernel
theorem dX2_isFull_12 : decode cX2_isFull 12 = .ok (.getfield 19, 3) := by decide +kernel
theorem dX2_isFull_15 : decode cX2_isFull 15 = .ok (.aload_n 0, 1) := by decide +kernel
theorem dX2_isFull_16 : decode cX2_isFull 16 = .ok (.getfield 9, 3) := by decide +kernel
theorem dX2_isFull_19 : decode cX2_isFull 19 = .ok (.arraylength, 1) := by decide +kernel
theorem dX2_isFull_20 : decode cX2_isFull 20 = .ok (.if_icmp .lt 7, 3) := by decide +kernel
theorem dX2_isFull_23 : decode cX2_isFull 23 = .ok (.iconst 1, 1) := by decide +kernel
theorem dX2_isFull_24 : decode cX2_isFull 24 = .ok (.goto 4, 3) := by decide +kernel
theorem dX2_isFull_27 : decode cX2_isFull 27 = .ok (.iconst 0, 1) := by decide +kernel
theorem dX2_isFull_28 : decode cX2_isFull 28 = .ok (.ireturn, 1) := by decide +kernel
theorem gf_X2_19 {p : Program} {l : Launch} {e : Env} {R : Room} {s : State} {m : MethodId} {args : Array Value} {below : List Frame} {meth : Method} {c : Code} {H : Heap} {locs : List Loc} {cells slots : Nat} {Q : State → Prop} {cc : ByteArray} {pc nL : Nat} {ls : Array Slot} {rest : List Value} {D : va_G} {ws : va_W} {tys : List (ClassId × FieldType)} (S : CallFix p m c cc nL s args TB RX2) (hK : va_K D vwCl tys s) (hP : va_P D vwCl ws H) (q0 : Nat) {a : Nat} {fs : List Value} (he : ws[q0]? = some (a, .inr (2, fs))) {v : Value} (hv : fs[2]? = some v) (hdg : decode cc pc = .ok (.getfield 19, 3))
    (kk : W p l e R s m args below meth c H locs cells slots Q (F0 m (pc + 3) ls (v :: rest))) : W p l e R s m args below meth c H locs cells slots Q (F0 m pc ls (.ref a :: rest)) :=
  va_get (D := D) (ci := 2) (C := RX2) (T := TX2) (N := 3) S.1 S.2.1 S.2.2.2.2 iwX2 S.2.2.2.1 hK hP q0 he rfl 2 (by decide) (S.2.2.2.2 _ tb66) (fun _ h9 => h9) hv hdg kk
theorem gf_X2_15 {p : Program} {l : Launch} {e : Env} {R : Room} {s : State} {m : MethodId} {args : Array Value} {below : List Frame} {meth : Method} {c : Code} {H : Heap} {locs : List Loc} {cells slots : Nat} {Q : State → Prop} {cc : ByteArray} {pc nL : Nat} {ls : Array Slot} {rest : List Value} {D : va_G} {ws : va_W} {tys : List (ClassId × FieldType)} (S : CallFix p m c cc nL s args TB RX2) (hK : va_K D vwCl tys s) (hP : va_P D vwCl ws H) (q0 : Nat) {a : Nat} {fs : List Value} (he : ws[q0]? = some (a, .inr (2, fs))) {v : Value} (hv : fs[1]? = some v) (hdg : decode cc pc = .ok (.getfield 15, 3))
    (kk : W p l e R s m args below meth c H locs cells slots Q (F0 m (pc + 3) ls (v :: rest))) : W p l e R s m args below meth c H locs cells slots Q (F0 m pc ls (.ref a :: rest)) :=
  va_get (D := D) (ci := 2) (C := RX2) (T := TX2) (N := 3) S.1 S.2.1 S.2.2.2.2 iwX2 S.2.2.2.1 hK hP q0 he rfl 1 (by decide) (S.2.2.2.2 _ tb65) (fun _ h9 => h9) hv hdg kk
theorem gf_X2_9 {p : Program} {l : Launch} {e : Env} {R : Room} {s : State} {m : MethodId} {args : Array Value} {below : List Frame} {meth : Method} {c : Code} {H : Heap} {locs : List Loc} {cells slots : Nat} {Q : State → Prop} {cc : ByteArray} {pc nL : Nat} {ls : Array Slot} {rest : List Value} {D : va_G} {ws : va_W} {tys : List (ClassId × FieldType)} (S : CallFix p m c cc nL s args TB RX2) (hK : va_K D vwCl tys s) (hP : va_P D vwCl ws H) (q0 : Nat) {a : Nat} {fs : List Value} (he : ws[q0]? = some (a, .inr (2, fs))) {v : Value} (hv : fs[0]? = some v) (hdg : decode cc pc = .ok (.getfield 9, 3))
    (kk : W p l e R s m args below meth c H locs cells slots Q (F0 m (pc + 3) ls (v :: rest))) : W p l e R s m args below meth c H locs cells slots Q (F0 m pc ls (.ref a :: rest)) :=
  va_get (D := D) (ci := 2) (C := RX2) (T := TX2) (N := 3) S.1 S.2.1 S.2.2.2.2 iwX2 S.2.2.2.1 hK hP q0 he rfl 0 (by decide) (S.2.2.2.2 _ tb64) (fun _ h9 => h9) hv hdg kk
def f_X2_isFull (v0_most v0_rungs : Int32) : Int32 :=
  if v0_most ≤ v0_rungs then
    1
  else
    if v0_rungs < 6 then
      0
    else
      1
set_option maxHeartbeats 4000000 in
set_option maxRecDepth 100000 in
theorem c_X2_isFull (l : Launch) (D : va_G) (cI cJ cC : ClassId) (h0 h1 : Nat) (v0_most v0_rungs : Int32) (r1 : Nat → Int32)  (t0 : Int32) (h : f_X2_isFull v0_most v0_rungs = t0) : Met l yX2_isFull (Cond.code yX2_isFull cX2_isFull 1 (some .boolean) :: TB) rm_X2_isFull (PreR D cI cJ cC [(h0, .inr (2, [.ref h1, .int v0_most, .int v0_rungs])), (h1, .inl (cI, 6, .inl r1))] [.ref h0]) (QR (some (.int t0))) 0 0 free0 := by
  refine metR (own := RX2) (by decide) rfl (Nat.le_of_ble_eq_true rfl) ?_
  intro p e s m below meth c S hr hlk hP hK ls hl
  have hx := S.1
  have hb := S.2.1
  have hl : lv_has ls 1 [(0, .ref h0)] := hl
  refine lv_aload_n hx hb dX2_isFull_0 rfl (lv_at hl 0 rfl) ?_
  refine gf_X2_19 (v := .int v0_rungs) S hK hP 0 rfl rfl dX2_isFull_1 ?_
  refine lv_aload_n hx hb dX2_isFull_4 rfl (lv_at hl 0 rfl) ?_
  refine gf_X2_15 (v := .int v0_most) S hK hP 0 rfl rfl dX2_isFull_5 ?_
  refine lv_icmp_ge (tgt := 23) hx hb dX2_isFull_8 (by decide) (fun c1 => ?_) (fun c1 => ?_)
  · have h := iteP c1 h
    refine lv_iconst (v := 1) hx hb dX2_isFull_23 li_1 ?_
    refine lv_goto (tgt := 28) hx hb dX2_isFull_24 (by decide) ?_
    subst h
    exact rRz S hr hlk (by decide) dX2_isFull_28
  · have h := iteN c1 h
    refine lv_aload_n hx hb dX2_isFull_11 rfl (lv_at hl 0 rfl) ?_
    refine gf_X2_19 (v := .int v0_rungs) S hK hP 0 rfl rfl dX2_isFull_12 ?_
    refine lv_aload_n hx hb dX2_isFull_15 rfl (lv_at hl 0 rfl) ?_
    refine gf_X2_9 (v := .ref h1) S hK hP 0 rfl rfl dX2_isFull_16 ?_
    refine va_alen hx hb hK hP 1 0 rfl rfl (v := 6) rfl dX2_isFull_19 ?_
    refine lv_icmp_lt (tgt := 27) hx hb dX2_isFull_20 (by decide) (fun c2 => ?_) (fun c2 => ?_)
    · have h := iteP c2 h
      refine lv_iconst (v := 0) hx hb dX2_isFull_27 li_0 ?_
      subst h
      exact rRz S hr hlk (by decide) dX2_isFull_28
    · have h := iteN c2 h
      refine lv_iconst (v := 1) hx hb dX2_isFull_23 li_1 ?_
      refine lv_goto (tgt := 28) hx hb dX2_isFull_24 (by decide) ?_
      subst h
      exact rRz S hr hlk (by decide) dX2_isFull_28
abbrev rm_X2_addTop : Room := { frames := 0, cells := 0, slots := 0, locals := 0 }
theorem dX2_addTop_0 : decode cX2_addTop 0 = .ok (.aload_n 0, 1) := by decide +kernel
theorem dX2_addTop_1 : decode cX2_addTop 1 = .ok (.getfield 19, 3) := by decide +kernel
theorem dX2_addTop_4 : decode cX2_addTop 4 = .ok (.ifCond .lt 35, 3) := by decide +kernel
theorem dX2_addTop_7 : decode cX2_addTop 7 = .ok (.aload_n 0, 1) := by decide +kernel
theorem dX2_addTop_8 : decode cX2_addTop 8 = .ok (.getfield 19, 3) := by decide +kernel
theorem dX2_addTop_11 : decode cX2_addTop 11 = .ok (.aload_n 0, 1) := by decide +kernel
theorem dX2_addTop_12 : decode cX2_addTop 12 = .ok (.getfield 9, 3) := by decide +kernel
theorem dX2_addTop_15 : decode cX2_addTop 15 = .ok (.arraylength, 1) := by decide +kernel
theorem dX2_addTop_16 : decode cX2_addTop 16 = .ok (.if_icmp .ge 23, 3) := by decide +kernel
theorem dX2_addTop_19 : decode cX2_addTop 19 = .ok (.aload_n 0, 1) := by decide +kernel
theorem dX2_addTop_20 : decode cX2_addTop 20 = .ok (.getfield 9, 3) := by decide +kernel
theorem dX2_addTop_23 : decode cX2_addTop 23 = .ok (.aload_n 0, 1) := by decide +kernel
theorem dX2_addTop_24 : decode cX2_addTop 24 = .ok (.getfield 19, 3) := by decide +kernel
theorem dX2_addTop_27 : decode cX2_addTop 27 = .ok (.iload_n 1, 1) := by decide +kernel
theorem dX2_addTop_28 : decode cX2_addTop 28 = .ok (.iastore, 1) := by decide +kernel
theorem dX2_addTop_29 : decode cX2_addTop 29 = .ok (.aload_n 0, 1) := by decide +kernel
theorem dX2_addTop_30 : decode cX2_addTop 30 = .ok (.dup, 1) := by decide +kernel
theorem dX2_addTop_31 : decode cX2_addTop 31 = .ok (.getfield 19, 3) := by decide +kernel
theorem dX2_addTop_34 : decode cX2_addTop 34 = .ok (.iconst 1, 1) := by decide +kernel
theorem dX2_addTop_35 : decode cX2_addTop 35 = .ok (.iadd, 1) := by decide +kernel
theorem dX2_addTop_36 : decode cX2_addTop 36 = .ok (.putfield 19, 3) := by decide +kernel
theorem dX2_addTop_39 : decode cX2_addTop 39 = .ok (.aload_n 0, 1) := by decide +kernel
theorem dX2_addTop_40 : decode cX2_addTop 40 = .ok (.getfield 19, 3) := by decide +kernel
theorem dX2_addTop_43 : decode cX2_addTop 43 = .ok (.iconst 1, 1) := by decide +kernel
theorem dX2_addTop_44 : decode cX2_addTop 44 = .ok (.isub, 1) := by decide +kernel
theorem dX2_addTop_45 : decode cX2_addTop 45 = .ok (.ireturn, 1) := by decide +kernel
theorem pf_X2_19 {p : Program} {l : Launch} {e : Env} {R : Room} {s : State} {m : MethodId} {args : Array Value} {below : List Frame} {meth : Method} {c : Code} {H H0 : Heap} {locs : List Loc} {cells slots : Nat} {Q : State → Prop} {cc : ByteArray} {pc nL : Nat} {ls : Array Slot} {rest : List Value} {D : va_G} {ws : va_W} {tys : List (ClassId × FieldType)} {A : Nat → Prop} {x9 : Int32} {v : Value} (S : CallFix p m c cc nL s args TB RX2) (hK : va_K D vwCl tys s) (hP : va_P D vwCl ws H) (hD : va_D A ws) (hS : va_S A H0 H locs) (q0 : Nat) {a : Nat} {fs : List Value} (he : ws[q0]? = some (a, .inr (2, fs))) (hle : 2 < fs.length) (hv9 : v = .int x9) (hdg : decode cc pc = .ok (.putfield 19, 3))
    (kk : ∀ (H1 : Heap) (locs1 : List Loc), va_P D vwCl (ws.set q0 (a, .inr (2, fs.set 2 v))) H1 → va_D A (ws.set q0 (a, .inr (2, fs.set 2 v))) → va_S A H0 H1 locs1 → W p l e R s m args below meth c H1 locs1 cells slots Q (F0 m (pc + 3) ls rest)) : W p l e R s m args below meth c H locs cells slots Q (F0 m pc ls (v :: .ref a :: rest)) := by
  subst hv9
  exact va_put (D := D) (ci := 2) (ty := .int) (C := RX2) (T := TX2) (N := 3) S.1 S.2.1 S.2.2.2.2 iwX2 tyX2 tyX2_ok nmX2 S.2.2.2.1 hK hP hD hS q0 he rfl 2 (by decide) (S.2.2.2.2 _ tb66) (fun _ h9 => h9) rfl (by decide +kernel) rfl rfl hle hdg kk
def f_X2_addTop (v0_rungs : Int32) (r1 : Nat → Int32) (p0 : Int32) : Int32 × Int32 × (Nat → Int32) :=
  if v0_rungs < 0 then
    (v0_rungs - 1, v0_rungs, r1)
  else
    if 6 ≤ v0_rungs then
      (v0_rungs - 1, v0_rungs, r1)
    else
      bnd (upd r1 v0_rungs.toNatClampNeg p0) fun (u3 : Nat → Int32) =>
      ((v0_rungs + 1) - 1, v0_rungs + 1, u3)
set_option maxHeartbeats 4000000 in
set_option maxRecDepth 100000 in
theorem c_X2_addTop (l : Launch) (D : va_G) (cI cJ cC : ClassId) (h0 h1 : Nat) (v0_most v0_rungs : Int32) (r1 : Nat → Int32) (sz : Nat) (p0 : Int32) (T : Int32 × Int32 × (Nat → Int32)) (h : f_X2_addTop v0_rungs r1 p0 = T) : Met l yX2_addTop (Cond.code yX2_addTop cX2_addTop 2 (some .int) :: TB) rm_X2_addTop (PreW D cI cJ cC [(h0, .inr (2, [.ref h1, .int v0_most, .int v0_rungs])), (h1, .inl (cI, 6, .inl r1))] sz [.ref h0, .int p0]) (QW (some (.int T.1)) D [(h0, .inr (2, [.ref h1, .int v0_most, .int T.2.1])), (h1, .inl (cI, 6, .inl T.2.2))] (va_A [(h0, .inr (2, [.ref h1, .int v0_most, .int v0_rungs])), (h1, .inl (cI, 6, .inl r1))] sz)) 0 0 (va_A [(h0, .inr (2, [.ref h1, .int v0_most, .int v0_rungs])), (h1, .inl (cI, 6, .inl r1))] sz) := by
  refine metW (own := RX2) (by decide) rfl (Nat.le_of_ble_eq_true rfl) ?_
  intro p e s m below meth c S hr hlk hP hK A hAe hD hA hS ls hl
  clear hAe
  have hx := S.1
  have hb := S.2.1
  have hl : lv_has ls 2 [(0, .ref h0), (1, .int p0)] := hl
  refine lv_aload_n hx hb dX2_addTop_0 rfl (lv_at hl 0 rfl) ?_
  refine gf_X2_19 (v := .int v0_rungs) S hK hP 0 rfl rfl dX2_addTop_1 ?_
  refine lv_if_lt (tgt := 39) hx hb dX2_addTop_4 (by decide) (fun c1 => ?_) (fun c1 => ?_)
  · have h := iteP c1 h
    refine lv_aload_n hx hb dX2_addTop_39 rfl (lv_at hl 0 rfl) ?_
    refine gf_X2_19 (v := .int v0_rungs) S hK hP 0 rfl rfl dX2_addTop_40 ?_
    refine lv_iconst (v := 1) hx hb dX2_addTop_43 li_1 ?_
    refine lv_isub hx hb dX2_addTop_44 ?_
    subst h
    exact wRi S hr hlk (hP.sub [0, 1] rfl) (hD.sub [0, 1] (by decide) rfl) hS dX2_addTop_45
  · have h := iteN c1 h
    refine lv_aload_n hx hb dX2_addTop_7 rfl (lv_at hl 0 rfl) ?_
    refine gf_X2_19 (v := .int v0_rungs) S hK hP 0 rfl rfl dX2_addTop_8 ?_
    refine lv_aload_n hx hb dX2_addTop_11 rfl (lv_at hl 0 rfl) ?_
    refine gf_X2_9 (v := .ref h1) S hK hP 0 rfl rfl dX2_addTop_12 ?_
    refine va_alen hx hb hK hP 1 0 rfl rfl (v := 6) rfl dX2_addTop_15 ?_
    refine lv_icmp_ge (tgt := 39) hx hb dX2_addTop_16 (by decide) (fun c2 => ?_) (fun c2 => ?_)
    · have h := iteP c2 h
      refine lv_aload_n hx hb dX2_addTop_39 rfl (lv_at hl 0 rfl) ?_
      refine gf_X2_19 (v := .int v0_rungs) S hK hP 0 rfl rfl dX2_addTop_40 ?_
      refine lv_iconst (v := 1) hx hb dX2_addTop_43 li_1 ?_
      refine lv_isub hx hb dX2_addTop_44 ?_
      subst h
      exact wRi S hr hlk (hP.sub [0, 1] rfl) (hD.sub [0, 1] (by decide) rfl) hS dX2_addTop_45
    · have h := iteN c2 h
      refine lv_aload_n hx hb dX2_addTop_19 rfl (lv_at hl 0 rfl) ?_
      refine gf_X2_9 (v := .ref h1) S hK hP 0 rfl rfl dX2_addTop_20 ?_
      refine lv_aload_n hx hb dX2_addTop_23 rfl (lv_at hl 0 rfl) ?_
      refine gf_X2_19 (v := .int v0_rungs) S hK hP 0 rfl rfl dX2_addTop_24 ?_
      refine lv_iload_n hx hb dX2_addTop_27 rfl (lv_at hl 1 rfl) ?_
      refine astI (k := v0_rungs.toNatClampNeg) (q0 := 1) S hK hP hD hS rfl (vpb (nlt32 c1) (nle32 c2) rfl) rfl dX2_addTop_28 (fun H locs hP hD hS => ?_)
      have hP : va_P D vwCl [(h0, .inr (2, [.ref h1, .int v0_most, .int v0_rungs])), (h1, .inl (cI, 6, .inl (upd r1 v0_rungs.toNatClampNeg p0)))] H := hP
      have hD : va_D A [(h0, .inr (2, [.ref h1, .int v0_most, .int v0_rungs])), (h1, .inl (cI, 6, .inl (upd r1 v0_rungs.toNatClampNeg p0)))] := hD
      obtain ⟨u3, e_u3⟩ : ∃ z, z = upd r1 v0_rungs.toNatClampNeg p0 := ⟨_, rfl⟩
      rw [← e_u3] at hP hD
      have h := bnd_eq e_u3.symm h
      refine lv_aload_n hx hb dX2_addTop_29 rfl (lv_at hl 0 rfl) ?_
      refine lv_dup hx hb dX2_addTop_30 rfl ?_
      refine gf_X2_19 (v := .int v0_rungs) S hK hP 0 rfl rfl dX2_addTop_31 ?_
      refine lv_iconst (v := 1) hx hb dX2_addTop_34 li_1 ?_
      refine lv_iadd hx hb dX2_addTop_35 ?_
      refine pf_X2_19 (v := .int (v0_rungs + 1)) S hK hP hD hS 0 rfl (Nat.le_of_ble_eq_true rfl) rfl dX2_addTop_36 (fun H locs hP hD hS => ?_)
      have hP : va_P D vwCl [(h0, .inr (2, [.ref h1, .int v0_most, .int (v0_rungs + 1)])), (h1, .inl (cI, 6, .inl u3))] H := hP
      have hD : va_D A [(h0, .inr (2, [.ref h1, .int v0_most, .int (v0_rungs + 1)])), (h1, .inl (cI, 6, .inl u3))] := hD
      refine lv_aload_n hx hb dX2_addTop_39 rfl (lv_at hl 0 rfl) ?_
      refine gf_X2_19 (v := .int (v0_rungs + 1)) S hK hP 0 rfl rfl dX2_addTop_40 ?_
      refine lv_iconst (v := 1) hx hb dX2_addTop_43 li_1 ?_
      refine lv_isub hx hb dX2_addTop_44 ?_
      subst h
      exact wRi S hr hlk (hP.sub [0, 1] rfl) (hD.sub [0, 1] (by decide) rfl) hS dX2_addTop_45
abbrev rm_X2_rateOf : Room := { frames := 0, cells := 0, slots := 0, locals := 0 }
theorem dX2_rateOf_0 : decode cX2_rateOf 0 = .ok (.iload_n 1, 1) := by decide +kernel
theorem dX2_rateOf_1 : decode cX2_rateOf 1 = .ok (.ifCond .lt 21, 3) := by decide +kernel
theorem dX2_rateOf_4 : decode cX2_rateOf 4 = .ok (.iload_n 1, 1) := by decide +kernel
theorem dX2_rateOf_5 : decode cX2_rateOf 5 = .ok (.aload_n 0, 1) := by decide +kernel
theorem dX2_rateOf_6 : decode cX2_rateOf 6 = .ok (.getfield 9, 3) := by decide +kernel
theorem dX2_rateOf_9 : decode cX2_rateOf 9 = .ok (.arraylength, 1) := by decide +kernel
theorem dX2_rateOf_10 : decode cX2_rateOf 10 = .ok (.if_icmp .ge 12, 3) := by decide +kernel
theorem dX2_rateOf_13 : decode cX2_rateOf 13 = .ok (.aload_n 0, 1) := by decide +kernel
theorem dX2_rateOf_14 : decode cX2_rateOf 14 = .ok (.getfield 9, 3) := by decide +kernel
theorem dX2_rateOf_17 : decode cX2_rateOf 17 = .ok (.iload_n 1, 1) := by decide +kernel
theorem dX2_rateOf_18 : decode cX2_rateOf 18 = .ok (.iaload, 1) := by decide +kernel
theorem dX2_rateOf_19 : decode cX2_rateOf 19 = .ok (.goto 4, 3) := by decide +kernel
theorem dX2_rateOf_22 : decode cX2_rateOf 22 = .ok (.iconst 0, 1) := by decide +kernel
theorem dX2_rateOf_23 : decode cX2_rateOf 23 = .ok (.ireturn, 1) := by decide +kernel
def f_X2_rateOf (r1 : Nat → Int32) (p0 : Int32) : Int32 :=
  if p0 < 0 then
    0
  else
    if 6 ≤ p0 then
      0
    else
      r1 p0.toNatClampNeg
set_option maxHeartbeats 4000000 in
set_option maxRecDepth 100000 in
theorem c_X2_rateOf (l : Launch) (D : va_G) (cI cJ cC : ClassId) (h0 h1 : Nat) (v0_most v0_rungs : Int32) (r1 : Nat → Int32) (p0 : Int32) (t0 : Int32) (h : f_X2_rateOf r1 p0 = t0) : Met l yX2_rateOf (Cond.code yX2_rateOf cX2_rateOf 2 (some .int) :: TB) rm_X2_rateOf (PreR D cI cJ cC [(h0, .inr (2, [.ref h1, .int v0_most, .int v0_rungs])), (h1, .inl (cI, 6, .inl r1))] [.ref h0, .int p0]) (QR (some (.int t0))) 0 0 free0 := by
  refine metR (own := RX2) (by decide) rfl (Nat.le_of_ble_eq_true rfl) ?_
  intro p e s m below meth c S hr hlk hP hK ls hl
  have hx := S.1
  have hb := S.2.1
  have hl : lv_has ls 2 [(0, .ref h0), (1, .int p0)] := hl
  refine lv_iload_n hx hb dX2_rateOf_0 rfl (lv_at hl 1 rfl) ?_
  refine lv_if_lt (tgt := 22) hx hb dX2_rateOf_1 (by decide) (fun c1 => ?_) (fun c1 => ?_)
  · have h := iteP c1 h
    refine lv_iconst (v := 0) hx hb dX2_rateOf_22 li_0 ?_
    subst h
    exact rRi S hr hlk dX2_rateOf_23
  · have h := iteN c1 h
    refine lv_iload_n hx hb dX2_rateOf_4 rfl (lv_at hl 1 rfl) ?_
    refine lv_aload_n hx hb dX2_rateOf_5 rfl (lv_at hl 0 rfl) ?_
    refine gf_X2_9 (v := .ref h1) S hK hP 0 rfl rfl dX2_rateOf_6 ?_
    refine va_alen hx hb hK hP 1 0 rfl rfl (v := 6) rfl dX2_rateOf_9 ?_
    refine lv_icmp_ge (tgt := 22) hx hb dX2_rateOf_10 (by decide) (fun c2 => ?_) (fun c2 => ?_)
    · have h := iteP c2 h
      refine lv_iconst (v := 0) hx hb dX2_rateOf_22 li_0 ?_
      subst h
      exact rRi S hr hlk dX2_rateOf_23
    · have h := iteN c2 h
      refine lv_aload_n hx hb dX2_rateOf_13 rfl (lv_at hl 0 rfl) ?_
      refine gf_X2_9 (v := .ref h1) S hK hP 0 rfl rfl dX2_rateOf_14 ?_
      refine lv_iload_n hx hb dX2_rateOf_17 rfl (lv_at hl 1 rfl) ?_
      refine aldI (k := p0.toNatClampNeg) (q0 := 1) S hK hP rfl (vpb (nlt32 c1) (nle32 c2) rfl) rfl dX2_rateOf_18 ?_
      refine lv_goto (tgt := 23) hx hb dX2_rateOf_19 (by decide) ?_
      subst h
      exact rRi S hr hlk dX2_rateOf_23
abbrev rm_X2_topRate : Room := { frames := 1, cells := 0, slots := 0, locals := 21 }
theorem dX2_topRate_0 : decode cX2_topRate 0 = .ok (.aload_n 0, 1) := by decide +kernel
theorem dX2_topRate_1 : decode cX2_topRate 1 = .ok (.aload_n 0, 1) := by decide +kernel
theorem dX2_topRate_2 : decode cX2_topRate 2 = .ok (.getfield 19, 3) := by decide +kernel
theorem dX2_topRate_5 : decode cX2_topRate 5 = .ok (.iconst 1, 1) := by decide +kernel
theorem dX2_topRate_6 : decode cX2_topRate 6 = .ok (.isub, 1) := by decide +kernel
theorem dX2_topRate_7 : decode cX2_topRate 7 = .ok (.invokevirtual 22, 3) := by decide +kernel
theorem dX2_topRate_10 : decode cX2_topRate 10 = .ok (.ireturn, 1) := by decide +kernel
theorem cw_X2_22 {R : Room} {s : State} {args : Array Value} (hts : ∀ w ∈ TB, w.before args s = true) (hR : rm_X2_rateOf.frames + 1 ≤ R.frames ∧ 8 + (2 + 11) + rm_X2_rateOf.locals ≤ R.locals) : CallW R s args RX2 RX2 22 yX2_rateOf cX2_rateOf 2 (some .int) (Cond.code yX2_rateOf cX2_rateOf 2 (some .int) :: TB) rm_X2_rateOf 0 0 1 := cwV 1 hts (gV tb448 tb449 tb450 tb23 tb451) rfl rfl rfl ⟨rfl, by decide, by decide, by decide +kernel⟩ hR
def f_X2_topRate (v0_rungs : Int32) (r1 : Nat → Int32) : Int32 :=
  f_X2_rateOf r1 (v0_rungs - 1)
set_option maxHeartbeats 4000000 in
set_option maxRecDepth 100000 in
theorem c_X2_topRate (l : Launch) (D : va_G) (cI cJ cC : ClassId) (h0 h1 : Nat) (v0_most v0_rungs : Int32) (r1 : Nat → Int32)  (t0 : Int32) (h : f_X2_topRate v0_rungs r1 = t0) : Met l yX2_topRate (Cond.code yX2_topRate cX2_topRate 1 (some .int) :: TB) rm_X2_topRate (PreR D cI cJ cC [(h0, .inr (2, [.ref h1, .int v0_most, .int v0_rungs])), (h1, .inl (cI, 6, .inl r1))] [.ref h0]) (QR (some (.int t0))) 0 0 free0 := by
  refine metR (own := RX2) (by decide) rfl (Nat.le_of_ble_eq_true rfl) ?_
  intro p e s m below meth c S hr hlk hP hK ls hl
  have hx := S.1
  have hb := S.2.1
  have hl : lv_has ls 1 [(0, .ref h0)] := hl
  refine lv_aload_n hx hb dX2_topRate_0 rfl (lv_at hl 0 rfl) ?_
  refine lv_aload_n hx hb dX2_topRate_1 rfl (lv_at hl 0 rfl) ?_
  refine gf_X2_19 (v := .int v0_rungs) S hK hP 0 rfl rfl dX2_topRate_2 ?_
  refine lv_iconst (v := 1) hx hb dX2_topRate_5 li_1 ?_
  refine lv_isub hx hb dX2_topRate_6 ?_
  refine rdV (pc1 := 10) (rest := []) (st1 := [.int (f_X2_rateOf r1 (v0_rungs - 1))]) S (c_X2_rateOf l D cI cJ cC h0 h1 v0_most v0_rungs r1 (v0_rungs - 1) _ rfl) (cw_X2_22 S.2.2.2.2 ⟨Nat.le_of_ble_eq_true rfl, Nat.le_of_ble_eq_true rfl⟩) hK (hP.sub [0, 1] rfl) rfl rfl rfl rfl hl.1 rfl (Nat.le_of_ble_eq_true rfl) ⟨Nat.zero_le _, Nat.zero_le _⟩ rfl rfl dX2_topRate_7 ?_
  subst h
  exact rRi S hr hlk dX2_topRate_10
