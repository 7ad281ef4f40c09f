abbrev rm_X3_empty : Room := { frames := 0, cells := 0, slots := 0, locals := 0 }
theorem dX3_empty_0 : decode cX3_empty 0 = .ok (.aload_n 0, 1) := by decide +kernel
theorem dX3_empty_1 : decode cX3_empty 1 = .ok (.iconst 0, 1) := by decide +kernel
theorem dX3_empty_2 : decode cX3_empty 2 = .ok (.putfield 15, 3) := by decide +kernel
theorem dX3_empty_5 : decode cX3_empty 5 = .ok (.return_, 1) := by decide +kernel
theorem pf_X3_15 {p : Program} {l : Launch} {e : Env} {R : Room} {s : State} {m : MethodId} {args : Array Value} {below : List Frame} {meth : Method} {c : Code} {H H0 : Heap} {locs : List Loc} {cells slots : Nat} {Q : State → Prop} {cc : ByteArray} {pc nL : Nat} {ls : Array Slot} {rest : List Value} {D : va_G} {ws : va_W} {tys : List (ClassId × FieldType)} {A : Nat → Prop} {x9 : Int32} {v : Value} (S : CallFix p m c cc nL s args TB RX3) (hK : va_K D vwCl tys s) (hP : va_P D vwCl ws H) (hD : va_D A ws) (hS : va_S A H0 H locs) (q0 : Nat) {a : Nat} {fs : List Value} (he : ws[q0]? = some (a, .inr (3, fs))) (hle : 1 < fs.length) (hv9 : v = .int x9) (hdg : decode cc pc = .ok (.putfield 15, 3))
    (kk : ∀ (H1 : Heap) (locs1 : List Loc), va_P D vwCl (ws.set q0 (a, .inr (3, fs.set 1 v))) H1 → va_D A (ws.set q0 (a, .inr (3, fs.set 1 v))) → va_S A H0 H1 locs1 → W p l e R s m args below meth c H1 locs1 cells slots Q (F0 m (pc + 3) ls rest)) : W p l e R s m args below meth c H locs cells slots Q (F0 m pc ls (v :: .ref a :: rest)) := by
  subst hv9
  exact va_put (D := D) (ci := 3) (ty := .int) (C := RX3) (T := TX3) (N := 2) S.1 S.2.1 S.2.2.2.2 iwX3 tyX3 tyX3_ok nmX3 S.2.2.2.1 hK hP hD hS q0 he rfl 1 (by decide) (S.2.2.2.2 _ tb237) (fun _ h9 => h9) rfl (by decide +kernel) rfl rfl hle hdg kk
def f_X3_empty  : Int32 :=
  0
set_option maxHeartbeats 4000000 in
set_option maxRecDepth 100000 in
theorem c_X3_empty (l : Launch) (D : va_G) (cI cJ cC : ClassId) (h0 kthis_signs : Nat) (v0_length : Int32) (sz : Nat)  (t0 : Int32) (h : f_X3_empty = t0) : Met l yX3_empty (Cond.code yX3_empty cX3_empty 1 none :: TB) rm_X3_empty (PreW D cI cJ cC [(h0, .inr (3, [.ref kthis_signs, .int v0_length]))] sz [.ref h0]) (QW none D [(h0, .inr (3, [.ref kthis_signs, .int t0]))] (va_A [(h0, .inr (3, [.ref kthis_signs, .int v0_length]))] sz)) 0 0 (va_A [(h0, .inr (3, [.ref kthis_signs, .int v0_length]))] sz) := by
  refine metW (own := RX3) (by decide) rfl (Nat.le_of_ble_eq_true rfl) ?_
  intro p e s m below meth c S hr hlk hP hK A hAe hD hA hS ls hl
  clear hAe
  have hx := S.1
  have hb := S.2.1
  have hl : lv_has ls 1 [(0, .ref h0)] := hl
  refine lv_aload_n hx hb dX3_empty_0 rfl (lv_at hl 0 rfl) ?_
  refine lv_iconst (v := 0) hx hb dX3_empty_1 li_0 ?_
  refine pf_X3_15 (v := .int 0) S hK hP hD hS 0 rfl (Nat.le_of_ble_eq_true rfl) rfl dX3_empty_2 (fun H locs hP hD hS => ?_)
  have hP : va_P D vwCl [(h0, .inr (3, [.ref kthis_signs, .int 0]))] H := hP
  have hD : va_D A [(h0, .inr (3, [.ref kthis_signs, .int 0]))] := hD
  subst h
  exact wRv S hr hlk (hP.sub [0] rfl) (hD.sub [0] (by decide) rfl) hS dX3_empty_5
abbrev rm_X3_copyFrom : Room := { frames := 1, cells := 0, slots := 0, locals := 30 }
theorem dX3_copyFrom_0 : decode cX3_copyFrom 0 = .ok (.aload_n 1, 1) := by decide +kernel
theorem dX3_copyFrom_1 : decode cX3_copyFrom 1 = .ok (.getfield 9, 3) := by decide +kernel
theorem dX3_copyFrom_4 : decode cX3_copyFrom 4 = .ok (.iconst 0, 1) := by decide +kernel
theorem dX3_copyFrom_5 : decode cX3_copyFrom 5 = .ok (.aload_n 0, 1) := by decide +kernel
theorem dX3_copyFrom_6 : decode cX3_copyFrom 6 = .ok (.getfield 9, 3) := by decide +kernel
theorem dX3_copyFrom_9 : decode cX3_copyFrom 9 = .ok (.iconst 0, 1) := by decide +kernel
theorem dX3_copyFrom_10 : decode cX3_copyFrom 10 = .ok (.sipush 300, 3) := by decide +kernel
theorem dX3_copyFrom_13 : decode cX3_copyFrom 13 = .ok (.invokestatic 19, 3) := by decide +kernel
theorem dX3_copyFrom_16 : decode cX3_copyFrom 16 = .ok (.aload_n 0, 1) := by decide +kernel
theorem dX3_copyFrom_17 : decode cX3_copyFrom 17 = .ok (.aload_n 1, 1) := by decide +kernel
theorem dX3_copyFrom_18 : decode cX3_copyFrom 18 = .ok (.getfield 15, 3) := by decide +kernel
theorem dX3_copyFrom_21 : decode cX3_copyFrom 21 = .ok (.putfield 15, 3) := by decide +kernel
theorem dX3_copyFrom_24 : decode cX3_copyFrom 24 = .ok (.return_, 1) := by decide +kernel
theorem gf_X3_9 {p : Program} {l : Launch} {e : Env} {R : Room} {s : State} {m : MethodId} {args : Array Value} {below : List Frame} {meth : Method} {c : Code} {H : Heap} {locs : List Loc} {cells slots : Nat} {Q : State → Prop} {cc : ByteArray} {pc nL : Nat} {ls : Array Slot} {rest : List Value} {D : va_G} {ws : va_W} {tys : List (ClassId × FieldType)} (S : CallFix p m c cc nL s args TB RX3) (hK : va_K D vwCl tys s) (hP : va_P D vwCl ws H) (q0 : Nat) {a : Nat} {fs : List Value} (he : ws[q0]? = some (a, .inr (3, fs))) {v : Value} (hv : fs[0]? = some v) (hdg : decode cc pc = .ok (.getfield 9, 3))
    (kk : W p l e R s m args below meth c H locs cells slots Q (F0 m (pc + 3) ls (v :: rest))) : W p l e R s m args below meth c H locs cells slots Q (F0 m pc ls (.ref a :: rest)) :=
  va_get (D := D) (ci := 3) (C := RX3) (T := TX3) (N := 2) S.1 S.2.1 S.2.2.2.2 iwX3 S.2.2.2.1 hK hP q0 he rfl 0 (by decide) (S.2.2.2.2 _ tb236) (fun _ h9 => h9) hv hdg kk
theorem gf_X3_15 {p : Program} {l : Launch} {e : Env} {R : Room} {s : State} {m : MethodId} {args : Array Value} {below : List Frame} {meth : Method} {c : Code} {H : Heap} {locs : List Loc} {cells slots : Nat} {Q : State → Prop} {cc : ByteArray} {pc nL : Nat} {ls : Array Slot} {rest : List Value} {D : va_G} {ws : va_W} {tys : List (ClassId × FieldType)} (S : CallFix p m c cc nL s args TB RX3) (hK : va_K D vwCl tys s) (hP : va_P D vwCl ws H) (q0 : Nat) {a : Nat} {fs : List Value} (he : ws[q0]? = some (a, .inr (3, fs))) {v : Value} (hv : fs[1]? = some v) (hdg : decode cc pc = .ok (.getfield 15, 3))
    (kk : W p l e R s m args below meth c H locs cells slots Q (F0 m (pc + 3) ls (v :: rest))) : W p l e R s m args below meth c H locs cells slots Q (F0 m pc ls (.ref a :: rest)) :=
  va_get (D := D) (ci := 3) (C := RX3) (T := TX3) (N := 2) S.1 S.2.1 S.2.2.2.2 iwX3 S.2.2.2.1 hK hP q0 he rfl 1 (by decide) (S.2.2.2.2 _ tb237) (fun _ h9 => h9) hv hdg kk
def f_X3_copyFrom (r1 : Nat → Int32) (v2_length : Int32) (r3 : Nat → Int32) : Option (Int32 × (Nat → Int32)) :=
  grd (chk r3 300) <|
  bnd (va_cpy r3 r1 0 0 300) fun (u2 : Nat → Int32) =>
  some (v2_length, u2)
set_option maxHeartbeats 4000000 in
set_option maxRecDepth 100000 in
theorem c_X3_copyFrom (l : Launch) (D : va_G) (cI cJ cC : ClassId) (h0 h1 h2 h3 : Nat) (v0_length : Int32) (r1 : Nat → Int32) (v2_length : Int32) (r3 : Nat → Int32) (sz : Nat)  (T : Int32 × (Nat → Int32)) (h : f_X3_copyFrom r1 v2_length r3 = some T) : Met l yX3_copyFrom (Cond.code yX3_copyFrom cX3_copyFrom 2 none :: TB) rm_X3_copyFrom (PreW D cI cJ cC [(h0, .inr (3, [.ref h1, .int v0_length])), (h1, .inl (cC, 300, .inl r1)), (h2, .inr (3, [.ref h3, .int v2_length])), (h3, .inl (cC, 300, .inl r3))] sz [.ref h0, .ref h2]) (QW none D [(h0, .inr (3, [.ref h1, .int T.1])), (h1, .inl (cC, 300, .inl T.2)), (h2, .inr (3, [.ref h3, .int v2_length])), (h3, .inl (cC, 300, .inl r3))] (va_A [(h0, .inr (3, [.ref h1, .int v0_length])), (h1, .inl (cC, 300, .inl r1)), (h2, .inr (3, [.ref h3, .int v2_length])), (h3, .inl (cC, 300, .inl r3))] sz)) 0 0 (va_A [(h0, .inr (3, [.ref h1, .int v0_length])), (h1, .inl (cC, 300, .inl r1)), (h2, .inr (3, [.ref h3, .int v2_length])), (h3, .inl (cC, 300, .inl r3))] sz) := by
  refine metW (own := RX3) (by decide) rfl (Nat.le_of_ble_eq_true rfl) ?_
  intro p e s m below meth c S hr hlk hP hK A hAe hD hA hS ls hl
  clear hAe
  have hx := S.1
  have hb := S.2.1
  have hl : lv_has ls 2 [(0, .ref h0), (1, .ref h2)] := hl
  refine lv_aload_n hx hb dX3_copyFrom_0 rfl (lv_at hl 1 rfl) ?_
  refine gf_X3_9 (v := .ref h3) S hK hP 2 rfl rfl dX3_copyFrom_1 ?_
  refine lv_iconst (v := 0) hx hb dX3_copyFrom_4 li_0 ?_
  refine lv_aload_n hx hb dX3_copyFrom_5 rfl (lv_at hl 0 rfl) ?_
  refine gf_X3_9 (v := .ref h1) S hK hP 0 rfl rfl dX3_copyFrom_6 ?_
  refine lv_iconst (v := 0) hx hb dX3_copyFrom_9 li_0 ?_
  refine lv_sipush (v := 300) hx hb dX3_copyFrom_10 ls_300 ?_
  obtain ⟨g1, h⟩ := grd_eq h
  refine cpyC (q0 := 3) (q1 := 1) (sp9 := 0) (dp9 := 0) (n9 := 300) S hl.1 tb712 hK hP hD hS rfl rfl (by decide) (by decide) (by decide) tn_0 tn_0 tn_300 (by decide) (by decide) (chk_fit g1) (Nat.le_of_ble_eq_true rfl) (Nat.le_of_ble_eq_true rfl) dX3_copyFrom_13 (fun H locs hP hD hS => ?_)
  have hP : va_P D vwCl [(h0, .inr (3, [.ref h1, .int v0_length])), (h1, .inl (cC, 300, .inl (va_cpy r3 r1 0 0 300))), (h2, .inr (3, [.ref h3, .int v2_length])), (h3, .inl (cC, 300, .inl r3))] H := hP
  have hD : va_D A [(h0, .inr (3, [.ref h1, .int v0_length])), (h1, .inl (cC, 300, .inl (va_cpy r3 r1 0 0 300))), (h2, .inr (3, [.ref h3, .int v2_length])), (h3, .inl (cC, 300, .inl r3))] := hD
  obtain ⟨u2, e_u2⟩ : ∃ z, z = va_cpy r3 r1 0 0 300 := ⟨_, rfl⟩
  rw [← e_u2] at hP hD
  have h := bnd_eq e_u2.symm h
  refine lv_aload_n hx hb dX3_copyFrom_16 rfl (lv_at hl 0 rfl) ?_
  refine lv_aload_n hx hb dX3_copyFrom_17 rfl (lv_at hl 1 rfl) ?_
  refine gf_X3_15 (v := .int v2_length) S hK hP 2 rfl rfl dX3_copyFrom_18 ?_
  refine pf_X3_15 (v := .int v2_length) S hK hP hD hS 0 rfl (Nat.le_of_ble_eq_true rfl) rfl dX3_copyFrom_21 (fun H locs hP hD hS => ?_)
  have hP : va_P D vwCl [(h0, .inr (3, [.ref h1, .int v2_length])), (h1, .inl (cC, 300, .inl u2)), (h2, .inr (3, [.ref h3, .int v2_length])), (h3, .inl (cC, 300, .inl r3))] H := hP
  have hD : va_D A [(h0, .inr (3, [.ref h1, .int v2_length])), (h1, .inl (cC, 300, .inl u2)), (h2, .inr (3, [.ref h3, .int v2_length])), (h3, .inl (cC, 300, .inl r3))] := hD
  have h := Option.some.inj h
  subst h
  exact wRv S hr hlk (hP.sub [0, 1, 2, 3] rfl) (hD.sub [0, 1, 2, 3] (by decide) rfl) hS dX3_copyFrom_24
abbrev rm_X3_put : Room := { frames := 0, cells := 0, slots := 0, locals := 0 }
theorem dX3_put_0 : decode cX3_put 0 = .ok (.aload_n 0, 1) := by decide +kernel
theorem dX3_put_1 : decode cX3_put 1 = .ok (.getfield 15, 3) := by decide +kernel
theorem dX3_put_4 : decode cX3_put 4 = .ok (.ifCond .lt 35, 3) := by decide +kernel
theorem dX3_put_7 : decode cX3_put 7 = .ok (.aload_n 0, 1) := by decide +kernel
theorem dX3_put_8 : decode cX3_put 8 = .ok (.getfield 15, 3) := by decide +kernel
theorem dX3_put_11 : decode cX3_put 11 = .ok (.aload_n 0, 1) := by decide +kernel
theorem dX3_put_12 : decode cX3_put 12 = .ok (.getfield 9, 3) := by decide +kernel
theorem dX3_put_15 : decode cX3_put 15 = .ok (.arraylength, 1) := by decide +kernel
theorem dX3_put_16 : decode cX3_put 16 = .ok (.if_icmp .ge 23, 3) := by decide +kernel
theorem dX3_put_19 : decode cX3_put 19 = .ok (.aload_n 0, 1) := by decide +kernel
theorem dX3_put_20 : decode cX3_put 20 = .ok (.getfield 9, 3) := by decide +kernel
theorem dX3_put_23 : decode cX3_put 23 = .ok (.aload_n 0, 1) := by decide +kernel
theorem dX3_put_24 : decode cX3_put 24 = .ok (.getfield 15, 3) := by decide +kernel
theorem dX3_put_27 : decode cX3_put 27 = .ok (.iload_n 1, 1) := by decide +kernel
theorem dX3_put_28 : decode cX3_put 28 = .ok (.castore, 1) := by decide +kernel
theorem dX3_put_29 : decode cX3_put 29 = .ok (.aload_n 0, 1) := by decide +kernel
theorem dX3_put_30 : decode cX3_put 30 = .ok (.dup, 1) := by decide +kernel
theorem dX3_put_31 : decode cX3_put 31 = .ok (.getfield 15, 3) := by decide +kernel
theorem dX3_put_34 : decode cX3_put 34 = .ok (.iconst 1, 1) := by decide +kernel
theorem dX3_put_35 : decode cX3_put 35 = .ok (.iadd, 1) := by decide +kernel
theorem dX3_put_36 : decode cX3_put 36 = .ok (.putfield 15, 3) := by decide +kernel
theorem dX3_put_39 : decode cX3_put 39 = .ok (.return_, 1) := by decide +kernel
def f_X3_put (v0_length : Int32) (r1 : Nat → Int32) (p0 : Int32) : Int32 × (Nat → Int32) :=
  if v0_length < 0 then
    (v0_length, r1)
  else
    if 300 ≤ v0_length then
      (v0_length, r1)
    else
      bnd (upd r1 v0_length.toNatClampNeg (vp_nar .char p0)) fun (u3 : Nat → Int32) =>
      (v0_length + 1, u3)
set_option maxHeartbeats 4000000 in
set_option maxRecDepth 100000 in
theorem c_X3_put (l : Launch) (D : va_G) (cI cJ cC : ClassId) (h0 h1 : Nat) (v0_length : Int32) (r1 : Nat → Int32) (sz : Nat) (p0 : Int32) (T : Int32 × (Nat → Int32)) (h : f_X3_put v0_length r1 p0 = T) : Met l yX3_put (Cond.code yX3_put cX3_put 2 none :: TB) rm_X3_put (PreW D cI cJ cC [(h0, .inr (3, [.ref h1, .int v0_length])), (h1, .inl (cC, 300, .inl r1))] sz [.ref h0, .int p0]) (QW none D [(h0, .inr (3, [.ref h1, .int T.1])), (h1, .inl (cC, 300, .inl T.2))] (va_A [(h0, .inr (3, [.ref h1, .int v0_length])), (h1, .inl (cC, 300, .inl r1))] sz)) 0 0 (va_A [(h0, .inr (3, [.ref h1, .int v0_length])), (h1, .inl (cC, 300, .inl r1))] sz) := by
  refine metW (own := RX3) (by decide) rfl (Nat.le_of_ble_eq_true rfl) ?_
  intro p e s m below meth c S hr hlk hP hK A hAe hD hA hS ls hl
  clear hAe
  have hx := S.1
  have hb := S.2.1
  have hl : lv_has ls 2 [(0, .ref h0), (1, .int p0)] := hl
  refine lv_aload_n hx hb dX3_put_0 rfl (lv_at hl 0 rfl) ?_
  refine gf_X3_15 (v := .int v0_length) S hK hP 0 rfl rfl dX3_put_1 ?_
  refine lv_if_lt (tgt := 39) hx hb dX3_put_4 (by decide) (fun c1 => ?_) (fun c1 => ?_)
  · have h := iteP c1 h
    subst h
    exact wRv S hr hlk (hP.sub [0, 1] rfl) (hD.sub [0, 1] (by decide) rfl) hS dX3_put_39
  · have h := iteN c1 h
    refine lv_aload_n hx hb dX3_put_7 rfl (lv_at hl 0 rfl) ?_
    refine gf_X3_15 (v := .int v0_length) S hK hP 0 rfl rfl dX3_put_8 ?_
    refine lv_aload_n hx hb dX3_put_11 rfl (lv_at hl 0 rfl) ?_
    refine gf_X3_9 (v := .ref h1) S hK hP 0 rfl rfl dX3_put_12 ?_
    refine va_alen hx hb hK hP 1 2 rfl rfl (v := 300) rfl dX3_put_15 ?_
    refine lv_icmp_ge (tgt := 39) hx hb dX3_put_16 (by decide) (fun c2 => ?_) (fun c2 => ?_)
    · have h := iteP c2 h
      subst h
      exact wRv S hr hlk (hP.sub [0, 1] rfl) (hD.sub [0, 1] (by decide) rfl) hS dX3_put_39
    · have h := iteN c2 h
      refine lv_aload_n hx hb dX3_put_19 rfl (lv_at hl 0 rfl) ?_
      refine gf_X3_9 (v := .ref h1) S hK hP 0 rfl rfl dX3_put_20 ?_
      refine lv_aload_n hx hb dX3_put_23 rfl (lv_at hl 0 rfl) ?_
      refine gf_X3_15 (v := .int v0_length) S hK hP 0 rfl rfl dX3_put_24 ?_
      refine lv_iload_n hx hb dX3_put_27 rfl (lv_at hl 1 rfl) ?_
      refine astC (k := v0_length.toNatClampNeg) (q0 := 1) S hK hP hD hS rfl (vpb (nlt32 c1) (nle32 c2) rfl) rfl dX3_put_28 (fun H locs hP hD hS => ?_)
      have hP : va_P D vwCl [(h0, .inr (3, [.ref h1, .int v0_length])), (h1, .inl (cC, 300, .inl (upd r1 v0_length.toNatClampNeg (vp_nar .char p0))))] H := hP
      have hD : va_D A [(h0, .inr (3, [.ref h1, .int v0_length])), (h1, .inl (cC, 300, .inl (upd r1 v0_length.toNatClampNeg (vp_nar .char p0))))] := hD
      obtain ⟨u3, e_u3⟩ : ∃ z, z = upd r1 v0_length.toNatClampNeg (vp_nar .char p0) := ⟨_, rfl⟩
      rw [← e_u3] at hP hD
      have h := bnd_eq e_u3.symm h
      refine lv_aload_n hx hb dX3_put_29 rfl (lv_at hl 0 rfl) ?_
      refine lv_dup hx hb dX3_put_30 rfl ?_
      refine gf_X3_15 (v := .int v0_length) S hK hP 0 rfl rfl dX3_put_31 ?_
      refine lv_iconst (v := 1) hx hb dX3_put_34 li_1 ?_
      refine lv_iadd hx hb dX3_put_35 ?_
      refine pf_X3_15 (v := .int (v0_length + 1)) S hK hP hD hS 0 rfl (Nat.le_of_ble_eq_true rfl) rfl dX3_put_36 (fun H locs hP hD hS => ?_)
      have hP : va_P D vwCl [(h0, .inr (3, [.ref h1, .int (v0_length + 1)])), (h1, .inl (cC, 300, .inl u3))] H := hP
      have hD : va_D A [(h0, .inr (3, [.ref h1, .int (v0_length + 1)])), (h1, .inl (cC, 300, .inl u3))] := hD
      subst h
      exact wRv S hr hlk (hP.sub [0, 1] rfl) (hD.sub [0, 1] (by decide) rfl) hS dX3_put_39
abbrev rm_X3_signAt : Room := { frames := 0, cells := 0, slots := 0, locals := 0 }
theorem dX3_signAt_0 : decode cX3_signAt 0 = .ok (.iload_n 1, 1) := by decide +kernel
theorem dX3_signAt_1 : decode cX3_signAt 1 = .ok (.ifCond .lt 29, 3) := by decide +kernel
theorem dX3_signAt_4 : decode cX3_signAt 4 = .ok (.iload_n 1, 1) := by decide +kernel
theorem dX3_signAt_5 : decode cX3_signAt 5 = .ok (.aload_n 0, 1) := by decide +kernel
theorem dX3_signAt_6 : decode cX3_signAt 6 = .ok (.getfield 15, 3) := by decide +kernel
theorem dX3_signAt_9 : decode cX3_signAt 9 = .ok (.if_icmp .ge 21, 3) := by decide +kernel
theorem dX3_signAt_12 : decode cX3_signAt 12 = .ok (.iload_n 1, 1) := by decide +kernel
theorem dX3_signAt_13 : decode cX3_signAt 13 = .ok (.aload_n 0, 1) := by decide +kernel
theorem dX3_signAt_14 : decode cX3_signAt 14 = .ok (.getfield 9, 3) := by decide +kernel
theorem dX3_signAt_17 : decode cX3_signAt 17 = .ok (.arraylength, 1) := by decide +kernel
theorem dX3_signAt_18 : decode cX3_signAt 18 = .ok (.if_icmp .ge 12, 3) := by decide +kernel
theorem dX3_signAt_21 : decode cX3_signAt 21 = .ok (.aload_n 0, 1) := by decide +kernel
theorem dX3_signAt_22 : decode cX3_signAt 22 = .ok (.getfield 9, 3) := by decide +kernel
theorem dX3_signAt_25 : decode cX3_signAt 25 = .ok (.iload_n 1, 1) := by decide +kernel
theorem dX3_signAt_26 : decode cX3_signAt 26 = .ok (.caload, 1) := by decide +kernel
theorem dX3_signAt_27 : decode cX3_signAt 27 = .ok (.goto 4, 3) := by decide +kernel
theorem dX3_signAt_30 : decode cX3_signAt 30 = .ok (.iconst (-1), 1) := by decide +kernel
theorem dX3_signAt_31 : decode cX3_signAt 31 = .ok (.ireturn, 1) := by decide +kernel
def f_X3_signAt (v0_length : Int32) (r1 : Nat → Int32) (p0 : Int32) : Int32 :=
  if p0 < 0 then
    (-1)
  else
    if v0_length ≤ p0 then
      (-1)
    else
      if 300 ≤ p0 then
        (-1)
      else
        r1 p0.toNatClampNeg
set_option maxHeartbeats 4000000 in
set_option maxRecDepth 100000 in
theorem c_X3_signAt (l : Launch) (D : va_G) (cI cJ cC : ClassId) (h0 h1 : Nat) (v0_length : Int32) (r1 : Nat → Int32) (p0 : Int32) (t0 : Int32) (h : f_X3_signAt v0_length r1 p0 = t0) : Met l yX3_signAt (Cond.code yX3_signAt cX3_signAt 2 (some .int) :: TB) rm_X3_signAt (PreR D cI cJ cC [(h0, .inr (3, [.ref h1, .int v0_length])), (h1, .inl (cC, 300, .inl r1))] [.ref h0, .int p0]) (QR (some (.int t0))) 0 0 free0 := by
  refine metR (own := RX3) (by decide) rfl (Nat.le_of_ble_eq_true rfl) ?_
  intro p e s m below meth c S hr hlk hP hK ls hl
  have hx := S.1
  have hb := S.2.1
  have hl : lv_has ls 2 [(0, .ref h0), (1, .int p0)] := hl
  refine lv_iload_n hx hb dX3_signAt_0 rfl (lv_at hl 1 rfl) ?_
  refine lv_if_lt (tgt := 30) hx hb dX3_signAt_1 (by decide) (fun c1 => ?_) (fun c1 => ?_)
  · have h := iteP c1 h
    refine lv_iconst (v := (-1)) hx hb dX3_signAt_30 li_m1 ?_
    subst h
    exact rRi S hr hlk dX3_signAt_31
  · have h := iteN c1 h
    refine lv_iload_n hx hb dX3_signAt_4 rfl (lv_at hl 1 rfl) ?_
    refine lv_aload_n hx hb dX3_signAt_5 rfl (lv_at hl 0 rfl) ?_
    refine gf_X3_15 (v := .int v0_length) S hK hP 0 rfl rfl dX3_signAt_6 ?_
    refine lv_icmp_ge (tgt := 30) hx hb dX3_signAt_9 (by decide) (fun c2 => ?_) (fun c2 => ?_)
    · have h := iteP c2 h
      refine lv_iconst (v := (-1)) hx hb dX3_signAt_30 li_m1 ?_
      subst h
      exact rRi S hr hlk dX3_signAt_31
    · have h := iteN c2 h
      refine lv_iload_n hx hb dX3_signAt_12 rfl (lv_at hl 1 rfl) ?_
      refine lv_aload_n hx hb dX3_signAt_13 rfl (lv_at hl 0 rfl) ?_
      refine gf_X3_9 (v := .ref h1) S hK hP 0 rfl rfl dX3_signAt_14 ?_
      refine va_alen hx hb hK hP 1 2 rfl rfl (v := 300) rfl dX3_signAt_17 ?_
      refine lv_icmp_ge (tgt := 30) hx hb dX3_signAt_18 (by decide) (fun c3 => ?_) (fun c3 => ?_)
      · have h := iteP c3 h
        refine lv_iconst (v := (-1)) hx hb dX3_signAt_30 li_m1 ?_
        subst h
        exact rRi S hr hlk dX3_signAt_31
      · have h := iteN c3 h
        refine lv_aload_n hx hb dX3_signAt_21 rfl (lv_at hl 0 rfl) ?_
        refine gf_X3_9 (v := .ref h1) S hK hP 0 rfl rfl dX3_signAt_22 ?_
        refine lv_iload_n hx hb dX3_signAt_25 rfl (lv_at hl 1 rfl) ?_
        refine aldC (k := p0.toNatClampNeg) (q0 := 1) S hK hP rfl (vpb (nlt32 c1) (nle32 c3) rfl) rfl dX3_signAt_26 ?_
        refine lv_goto (tgt := 31) hx hb dX3_signAt_27 (by decide) ?_
        subst h
        exact rRi S hr hlk dX3_signAt_31
