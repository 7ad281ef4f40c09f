abbrev rm_X8_valueOf : Room := { frames := 0, cells := 0, slots := 0, locals := 0 }
theorem dX8_valueOf_0 : decode cX8_valueOf 0 = .ok (.iload_n 1, 1) := by decide +kernel
theorem dX8_valueOf_1 : decode cX8_valueOf 1 = .ok (.ifCond .lt 21, 3) := by decide +kernel
theorem dX8_valueOf_4 : decode cX8_valueOf 4 = .ok (.iload_n 1, 1) := by decide +kernel
theorem dX8_valueOf_5 : decode cX8_valueOf 5 = .ok (.aload_n 0, 1) := by decide +kernel
theorem dX8_valueOf_6 : decode cX8_valueOf 6 = .ok (.getfield 18, 3) := by decide +kernel
theorem dX8_valueOf_9 : decode cX8_valueOf 9 = .ok (.arraylength, 1) := by decide +kernel
theorem dX8_valueOf_10 : decode cX8_valueOf 10 = .ok (.if_icmp .ge 12, 3) := by decide +kernel
theorem dX8_valueOf_13 : decode cX8_valueOf 13 = .ok (.aload_n 0, 1) := by decide +kernel
theorem dX8_valueOf_14 : decode cX8_valueOf 14 = .ok (.getfield 18, 3) := by decide +kernel
theorem dX8_valueOf_17 : decode cX8_valueOf 17 = .ok (.iload_n 1, 1) := by decide +kernel
theorem dX8_valueOf_18 : decode cX8_valueOf 18 = .ok (.iaload, 1) := by decide +kernel
theorem dX8_valueOf_19 : decode cX8_valueOf 19 = .ok (.goto 4, 3) := by decide +kernel
theorem dX8_valueOf_22 : decode cX8_valueOf 22 = .ok (.iconst 0, 1) := by decide +kernel
theorem dX8_valueOf_23 : decode cX8_valueOf 23 = .ok (.ireturn, 1) := by decide +kernel
theorem gf_X8_18 {p : Program} {l : Launch} {e : Env} {R : Room} {s : State} {m : MethodId} {args : Array Value} {below : List Frame} {meth : Method} {c : Code} {H : Heap} {locs : List Loc} {cells slots : Nat} {Q : State → Prop} {cc : ByteArray} {pc nL : Nat} {ls : Array Slot} {rest : List Value} {D : va_G} {ws : va_W} {tys : List (ClassId × FieldType)} (S : CallFix p m c cc nL s args TB RX8) (hK : va_K D vwCl tys s) (hP : va_P D vwCl ws H) (q0 : Nat) {a : Nat} {fs : List Value} (he : ws[q0]? = some (a, .inr (8, fs))) {v : Value} (hv : fs[0]? = some v) (hdg : decode cc pc = .ok (.getfield 18, 3))
    (kk : W p l e R s m args below meth c H locs cells slots Q (F0 m (pc + 3) ls (v :: rest))) : W p l e R s m args below meth c H locs cells slots Q (F0 m pc ls (.ref a :: rest)) :=
  va_get (D := D) (ci := 8) (C := RX8) (T := TX8) (N := 4) S.1 S.2.1 S.2.2.2.2 iwX8 S.2.2.2.1 hK hP q0 he rfl 0 (by decide) (S.2.2.2.2 _ tb98) (fun _ h9 => h9) hv hdg kk
def f_X8_valueOf (r1 : Nat → Int32) (p0 : Int32) : Int32 :=
  if p0 < 0 then
    0
  else
    if 15 ≤ p0 then
      0
    else
      r1 p0.toNatClampNeg
set_option maxHeartbeats 4000000 in
set_option maxRecDepth 100000 in
theorem c_X8_valueOf (l : Launch) (D : va_G) (cI cJ cC : ClassId) (h0 h1 kthis_video kthis_audio kthis_plan : Nat) (r1 : Nat → Int32) (p0 : Int32) (t0 : Int32) (h : f_X8_valueOf r1 p0 = t0) : Met l yX8_valueOf (Cond.code yX8_valueOf cX8_valueOf 2 (some .int) :: TB) rm_X8_valueOf (PreR D cI cJ cC [(h0, .inr (8, [.ref h1, .ref kthis_video, .ref kthis_audio, .ref kthis_plan])), (h1, .inl (cI, 15, .inl r1))] [.ref h0, .int p0]) (QR (some (.int t0))) 0 0 free0 := by
  refine metR (own := RX8) (by decide) rfl (Nat.le_of_ble_eq_true rfl) ?_
  intro p e s m below meth c S hr hlk hP hK ls hl
  have hx := S.1
  have hb := S.2.1
  have hl : lv_has ls 2 [(0, .ref h0), (1, .int p0)] := hl
  refine lv_iload_n hx hb dX8_valueOf_0 rfl (lv_at hl 1 rfl) ?_
  refine lv_if_lt (tgt := 22) hx hb dX8_valueOf_1 (by decide) (fun c1 => ?_) (fun c1 => ?_)
  · have h := iteP c1 h
    refine lv_iconst (v := 0) hx hb dX8_valueOf_22 li_0 ?_
    subst h
    exact rRi S hr hlk dX8_valueOf_23
  · have h := iteN c1 h
    refine lv_iload_n hx hb dX8_valueOf_4 rfl (lv_at hl 1 rfl) ?_
    refine lv_aload_n hx hb dX8_valueOf_5 rfl (lv_at hl 0 rfl) ?_
    refine gf_X8_18 (v := .ref h1) S hK hP 0 rfl rfl dX8_valueOf_6 ?_
    refine va_alen hx hb hK hP 1 0 rfl rfl (v := 15) rfl dX8_valueOf_9 ?_
    refine lv_icmp_ge (tgt := 22) hx hb dX8_valueOf_10 (by decide) (fun c2 => ?_) (fun c2 => ?_)
    · have h := iteP c2 h
      refine lv_iconst (v := 0) hx hb dX8_valueOf_22 li_0 ?_
      subst h
      exact rRi S hr hlk dX8_valueOf_23
    · have h := iteN c2 h
      refine lv_aload_n hx hb dX8_valueOf_13 rfl (lv_at hl 0 rfl) ?_
      refine gf_X8_18 (v := .ref h1) S hK hP 0 rfl rfl dX8_valueOf_14 ?_
      refine lv_iload_n hx hb dX8_valueOf_17 rfl (lv_at hl 1 rfl) ?_
      refine aldI (k := p0.toNatClampNeg) (q0 := 1) S hK hP rfl (vpb (nlt32 c1) (nle32 c2) rfl) rfl dX8_valueOf_18 ?_
      refine lv_goto (tgt := 23) hx hb dX8_valueOf_19 (by decide) ?_
      subst h
      exact rRi S hr hlk dX8_valueOf_23
abbrev rm_X8_replaceValue : Room := { frames := 1, cells := 0, slots := 0, locals := 21 }
theorem dX8_replaceValue_0 : decode cX8_replaceValue 0 = .ok (.aload_n 0, 1) := by decide +kernel
theorem dX8_replaceValue_1 : decode cX8_replaceValue 1 = .ok (.iload_n 1, 1) := by decide +kernel
theorem dX8_replaceValue_2 : decode cX8_replaceValue 2 = .ok (.invokevirtual 48, 3) := by decide +kernel
theorem dX8_replaceValue_5 : decode cX8_replaceValue 5 = .ok (.istore_n 3, 1) := by decide +kernel
theorem dX8_replaceValue_6 : decode cX8_replaceValue 6 = .ok (.iload_n 1, 1) := by decide +kernel
theorem dX8_replaceValue_7 : decode cX8_replaceValue 7 = .ok (.ifCond .lt 19, 3) := by decide +kernel
theorem dX8_replaceValue_10 : decode cX8_replaceValue 10 = .ok (.iload_n 1, 1) := by decide +kernel
theorem dX8_replaceValue_11 : decode cX8_replaceValue 11 = .ok (.aload_n 0, 1) := by decide +kernel
theorem dX8_replaceValue_12 : decode cX8_replaceValue 12 = .ok (.getfield 18, 3) := by decide +kernel
theorem dX8_replaceValue_15 : decode cX8_replaceValue 15 = .ok (.arraylength, 1) := by decide +kernel
theorem dX8_replaceValue_16 : decode cX8_replaceValue 16 = .ok (.if_icmp .ge 10, 3) := by decide +kernel
theorem dX8_replaceValue_19 : decode cX8_replaceValue 19 = .ok (.aload_n 0, 1) := by decide +kernel
theorem dX8_replaceValue_20 : decode cX8_replaceValue 20 = .ok (.getfield 18, 3) := by decide +kernel
theorem dX8_replaceValue_23 : decode cX8_replaceValue 23 = .ok (.iload_n 1, 1) := by decide +kernel
theorem dX8_replaceValue_24 : decode cX8_replaceValue 24 = .ok (.iload_n 2, 1) := by decide +kernel
theorem dX8_replaceValue_25 : decode cX8_replaceValue 25 = .ok (.iastore, 1) := by decide +kernel
theorem dX8_replaceValue_26 : decode cX8_replaceValue 26 = .ok (.iload_n 3, 1) := by decide +kernel
theorem dX8_replaceValue_27 : decode cX8_replaceValue 27 = .ok (.ireturn, 1) := by decide +kernel
theorem cw_X8_48 {R : Room} {s : State} {args : Array Value} (hts : ∀ w ∈ TB, w.before args s = true) (hR : rm_X8_valueOf.frames + 1 ≤ R.frames ∧ 8 + (2 + 11) + rm_X8_valueOf.locals ≤ R.locals) : CallW R s args RX8 RX8 48 yX8_valueOf cX8_valueOf 2 (some .int) (Cond.code yX8_valueOf cX8_valueOf 2 (some .int) :: TB) rm_X8_valueOf 0 0 1 := cwV 1 hts (gV tb519 tb424 tb425 tb22 tb426) rfl rfl rfl ⟨rfl, by decide, by decide, by decide +kernel⟩ hR
def f_X8_replaceValue (r1 : Nat → Int32) (p0 p1 : Int32) : Int32 × (Nat → Int32) :=
  if p0 < 0 then
    (f_X8_valueOf r1 p0, r1)
  else
    if 15 ≤ p0 then
      (f_X8_valueOf r1 p0, r1)
    else
      bnd (upd r1 p0.toNatClampNeg p1) fun (u3 : Nat → Int32) =>
      (f_X8_valueOf r1 p0, u3)
set_option maxHeartbeats 4000000 in
set_option maxRecDepth 100000 in
theorem c_X8_replaceValue (l : Launch) (D : va_G) (cI cJ cC : ClassId) (h0 h1 kthis_video kthis_audio kthis_plan : Nat) (r1 : Nat → Int32) (sz : Nat) (p0 p1 : Int32) (T : Int32 × (Nat → Int32)) (h : f_X8_replaceValue r1 p0 p1 = T) : Met l yX8_replaceValue (Cond.code yX8_replaceValue cX8_replaceValue 4 (some .int) :: TB) rm_X8_replaceValue (PreW D cI cJ cC [(h0, .inr (8, [.ref h1, .ref kthis_video, .ref kthis_audio, .ref kthis_plan])), (h1, .inl (cI, 15, .inl r1))] sz [.ref h0, .int p0, .int p1]) (QW (some (.int T.1)) D [(h0, .inr (8, [.ref h1, .ref kthis_video, .ref kthis_audio, .ref kthis_plan])), (h1, .inl (cI, 15, .inl T.2))] (va_A [(h0, .inr (8, [.ref h1, .ref kthis_video, .ref kthis_audio, .ref kthis_plan])), (h1, .inl (cI, 15, .inl r1))] sz)) 0 0 (va_A [(h0, .inr (8, [.ref h1, .ref kthis_video, .ref kthis_audio, .ref kthis_plan])), (h1, .inl (cI, 15, .inl r1))] sz) := by
  refine metW (own := RX8) (by decide) rfl (Nat.le_of_ble_eq_true rfl) ?_
  intro p e s m below meth c S hr hlk hP hK A hAe hD hA hS ls hl
  clear hAe
  have hx := S.1
  have hb := S.2.1
  have hl : lv_has ls 4 [(0, .ref h0), (1, .int p0), (2, .int p1)] := hl
  refine lv_aload_n hx hb dX8_replaceValue_0 rfl (lv_at hl 0 rfl) ?_
  refine lv_iload_n hx hb dX8_replaceValue_1 rfl (lv_at hl 1 rfl) ?_
  refine rdV (pc1 := 5) (rest := []) (st1 := [.int (f_X8_valueOf r1 p0)]) S (c_X8_valueOf l D cI cJ cC h0 h1 kthis_video kthis_audio kthis_plan r1 p0 _ rfl) (cw_X8_48 S.2.2.2.2 ⟨Nat.le_of_ble_eq_true rfl, Nat.le_of_ble_eq_true rfl⟩) hK (hP.sub [0, 1] rfl) rfl rfl rfl rfl hl.1 rfl (Nat.le_of_ble_eq_true rfl) ⟨Nat.zero_le _, Nat.zero_le _⟩ rfl rfl dX8_replaceValue_2 ?_
  refine lv_istore_n (lv' := [(3, .int (f_X8_valueOf r1 p0)), (0, .ref h0), (1, .int p0), (2, .int p1)]) hx hb dX8_replaceValue_5 rfl hl (by decide) rfl (fun ls hl => ?_)
  refine lv_iload_n hx hb dX8_replaceValue_6 rfl (lv_at hl 2 rfl) ?_
  refine lv_if_lt (tgt := 26) hx hb dX8_replaceValue_7 (by decide) (fun c1 => ?_) (fun c1 => ?_)
  · have h := iteP c1 h
    refine lv_iload_n hx hb dX8_replaceValue_26 rfl (lv_at hl 0 rfl) ?_
    subst h
    exact wRi S hr hlk (hP.sub [0, 1] rfl) (hD.sub [0, 1] (by decide) rfl) hS dX8_replaceValue_27
  · have h := iteN c1 h
    refine lv_iload_n hx hb dX8_replaceValue_10 rfl (lv_at hl 2 rfl) ?_
    refine lv_aload_n hx hb dX8_replaceValue_11 rfl (lv_at hl 1 rfl) ?_
    refine gf_X8_18 (v := .ref h1) S hK hP 0 rfl rfl dX8_replaceValue_12 ?_
    refine va_alen hx hb hK hP 1 0 rfl rfl (v := 15) rfl dX8_replaceValue_15 ?_
    refine lv_icmp_ge (tgt := 26) hx hb dX8_replaceValue_16 (by decide) (fun c2 => ?_) (fun c2 => ?_)
    · have h := iteP c2 h
      refine lv_iload_n hx hb dX8_replaceValue_26 rfl (lv_at hl 0 rfl) ?_
      subst h
      exact wRi S hr hlk (hP.sub [0, 1] rfl) (hD.sub [0, 1] (by decide) rfl) hS dX8_replaceValue_27
    · have h := iteN c2 h
      refine lv_aload_n hx hb dX8_replaceValue_19 rfl (lv_at hl 1 rfl) ?_
      refine gf_X8_18 (v := .ref h1) S hK hP 0 rfl rfl dX8_replaceValue_20 ?_
      refine lv_iload_n hx hb dX8_replaceValue_23 rfl (lv_at hl 2 rfl) ?_
      refine lv_iload_n hx hb dX8_replaceValue_24 rfl (lv_at hl 3 rfl) ?_
      refine astI (k := p0.toNatClampNeg) (q0 := 1) S hK hP hD hS rfl (vpb (nlt32 c1) (nle32 c2) rfl) rfl dX8_replaceValue_25 (fun H locs hP hD hS => ?_)
      have hP : va_P D vwCl [(h0, .inr (8, [.ref h1, .ref kthis_video, .ref kthis_audio, .ref kthis_plan])), (h1, .inl (cI, 15, .inl (upd r1 p0.toNatClampNeg p1)))] H := hP
      have hD : va_D A [(h0, .inr (8, [.ref h1, .ref kthis_video, .ref kthis_audio, .ref kthis_plan])), (h1, .inl (cI, 15, .inl (upd r1 p0.toNatClampNeg p1)))] := hD
      obtain ⟨u3, e_u3⟩ : ∃ z, z = upd r1 p0.toNatClampNeg p1 := ⟨_, rfl⟩
      rw [← e_u3] at hP hD
      have h := bnd_eq e_u3.symm h
      refine lv_iload_n hx hb dX8_replaceValue_26 rfl (lv_at hl 0 rfl) ?_
      subst h
      exact wRi S hr hlk (hP.sub [0, 1] rfl) (hD.sub [0, 1] (by decide) rfl) hS dX8_replaceValue_27
abbrev rm_X8_empty : Room := { frames := 1, cells := 0, slots := 0, locals := 20 }
theorem dX8_empty_0 : decode cX8_empty 0 = .ok (.aload_n 0, 1) := by decide +kernel
theorem dX8_empty_1 : decode cX8_empty 1 = .ok (.getfield 28, 3) := by decide +kernel
theorem dX8_empty_4 : decode cX8_empty 4 = .ok (.iconst 0, 1) := by decide +kernel
theorem dX8_empty_5 : decode cX8_empty 5 = .ok (.putfield 52, 3) := by decide +kernel
theorem dX8_empty_8 : decode cX8_empty 8 = .ok (.aload_n 0, 1) := by decide +kernel
theorem dX8_empty_9 : decode cX8_empty 9 = .ok (.getfield 32, 3) := by decide +kernel
theorem dX8_empty_12 : decode cX8_empty 12 = .ok (.iconst 0, 1) := by decide +kernel
theorem dX8_empty_13 : decode cX8_empty 13 = .ok (.putfield 52, 3) := by decide +kernel
theorem dX8_empty_16 : decode cX8_empty 16 = .ok (.aload_n 0, 1) := by decide +kernel
theorem dX8_empty_17 : decode cX8_empty 17 = .ok (.getfield 38, 3) := by decide +kernel
theorem dX8_empty_20 : decode cX8_empty 20 = .ok (.invokevirtual 56, 3) := by decide +kernel
theorem dX8_empty_23 : decode cX8_empty 23 = .ok (.return_, 1) := by decide +kernel
theorem gf_X8_28 {p : Program} {l : Launch} {e : Env} {R : Room} {s : State} {m : MethodId} {args : Array Value} {below : List Frame} {meth : Method} {c : Code} {H : Heap} {locs : List Loc} {cells slots : Nat} {Q : State → Prop} {cc : ByteArray} {pc nL : Nat} {ls : Array Slot} {rest : List Value} {D : va_G} {ws : va_W} {tys : List (ClassId × FieldType)} (S : CallFix p m c cc nL s args TB RX8) (hK : va_K D vwCl tys s) (hP : va_P D vwCl ws H) (q0 : Nat) {a : Nat} {fs : List Value} (he : ws[q0]? = some (a, .inr (8, fs))) {v : Value} (hv : fs[1]? = some v) (hdg : decode cc pc = .ok (.getfield 28, 3))
    (kk : W p l e R s m args below meth c H locs cells slots Q (F0 m (pc + 3) ls (v :: rest))) : W p l e R s m args below meth c H locs cells slots Q (F0 m pc ls (.ref a :: rest)) :=
  va_get (D := D) (ci := 8) (C := RX8) (T := TX8) (N := 4) S.1 S.2.1 S.2.2.2.2 iwX8 S.2.2.2.1 hK hP q0 he rfl 1 (by decide) (S.2.2.2.2 _ tb99) (fun _ h9 => h9) hv hdg kk
theorem pf_X8_52 {p : Program} {l : Launch} {e : Env} {R : Room} {s : State} {m : MethodId} {args : Array Value} {below : List Frame} {meth : Method} {c : Code} {H H0 : Heap} {locs : List Loc} {cells slots : Nat} {Q : State → Prop} {cc : ByteArray} {pc nL : Nat} {ls : Array Slot} {rest : List Value} {D : va_G} {ws : va_W} {tys : List (ClassId × FieldType)} {A : Nat → Prop} {x9 : Int32} {v : Value} (S : CallFix p m c cc nL s args TB RX8) (hK : va_K D vwCl tys s) (hP : va_P D vwCl ws H) (hD : va_D A ws) (hS : va_S A H0 H locs) (q0 : Nat) {a : Nat} {fs : List Value} (he : ws[q0]? = some (a, .inr (2, fs))) (hle : 2 < fs.length) (hv9 : v = .int x9) (hdg : decode cc pc = .ok (.putfield 52, 3))
    (kk : ∀ (H1 : Heap) (locs1 : List Loc), va_P D vwCl (ws.set q0 (a, .inr (2, fs.set 2 v))) H1 → va_D A (ws.set q0 (a, .inr (2, fs.set 2 v))) → va_S A H0 H1 locs1 → W p l e R s m args below meth c H1 locs1 cells slots Q (F0 m (pc + 3) ls rest)) : W p l e R s m args below meth c H locs cells slots Q (F0 m pc ls (v :: .ref a :: rest)) := by
  subst hv9
  exact va_put (D := D) (ci := 2) (ty := .int) (C := RX2) (T := TX2) (N := 3) S.1 S.2.1 S.2.2.2.2 iwX2 tyX2 tyX2_ok nmX2 S.2.2.2.1 hK hP hD hS q0 he rfl 2 (by decide) (S.2.2.2.2 _ tb67) (fun _ h9 => h9) rfl (by decide +kernel) rfl rfl hle hdg kk
theorem gf_X8_32 {p : Program} {l : Launch} {e : Env} {R : Room} {s : State} {m : MethodId} {args : Array Value} {below : List Frame} {meth : Method} {c : Code} {H : Heap} {locs : List Loc} {cells slots : Nat} {Q : State → Prop} {cc : ByteArray} {pc nL : Nat} {ls : Array Slot} {rest : List Value} {D : va_G} {ws : va_W} {tys : List (ClassId × FieldType)} (S : CallFix p m c cc nL s args TB RX8) (hK : va_K D vwCl tys s) (hP : va_P D vwCl ws H) (q0 : Nat) {a : Nat} {fs : List Value} (he : ws[q0]? = some (a, .inr (8, fs))) {v : Value} (hv : fs[2]? = some v) (hdg : decode cc pc = .ok (.getfield 32, 3))
    (kk : W p l e R s m args below meth c H locs cells slots Q (F0 m (pc + 3) ls (v :: rest))) : W p l e R s m args below meth c H locs cells slots Q (F0 m pc ls (.ref a :: rest)) :=
  va_get (D := D) (ci := 8) (C := RX8) (T := TX8) (N := 4) S.1 S.2.1 S.2.2.2.2 iwX8 S.2.2.2.1 hK hP q0 he rfl 2 (by decide) (S.2.2.2.2 _ tb101) (fun _ h9 => h9) hv hdg kk
theorem gf_X8_38 {p : Program} {l : Launch} {e : Env} {R : Room} {s : State} {m : MethodId} {args : Array Value} {below : List Frame} {meth : Method} {c : Code} {H : Heap} {locs : List Loc} {cells slots : Nat} {Q : State → Prop} {cc : ByteArray} {pc nL : Nat} {ls : Array Slot} {rest : List Value} {D : va_G} {ws : va_W} {tys : List (ClassId × FieldType)} (S : CallFix p m c cc nL s args TB RX8) (hK : va_K D vwCl tys s) (hP : va_P D vwCl ws H) (q0 : Nat) {a : Nat} {fs : List Value} (he : ws[q0]? = some (a, .inr (8, fs))) {v : Value} (hv : fs[3]? = some v) (hdg : decode cc pc = .ok (.getfield 38, 3))
    (kk : W p l e R s m args below meth c H locs cells slots Q (F0 m (pc + 3) ls (v :: rest))) : W p l e R s m args below meth c H locs cells slots Q (F0 m pc ls (.ref a :: rest)) :=
  va_get (D := D) (ci := 8) (C := RX8) (T := TX8) (N := 4) S.1 S.2.1 S.2.2.2.2 iwX8 S.2.2.2.1 hK hP q0 he rfl 3 (by decide) (S.2.2.2.2 _ tb103) (fun _ h9 => h9) hv hdg kk
theorem cw_X8_56 {R : Room} {s : State} {args : Array Value} (hts : ∀ w ∈ TB, w.before args s = true) (hR : rm_X4_empty.frames + 1 ≤ R.frames ∧ 8 + (1 + 11) + rm_X4_empty.locals ≤ R.locals) : CallW R s args RX8 RX4 56 yX4_empty cX4_empty 1 none (Cond.code yX4_empty cX4_empty 1 none :: TB) rm_X4_empty 0 0 0 := cwV 0 hts (gV tb371 tb372 tb373 tb24 tb374) rfl rfl rfl ⟨rfl, by decide, by decide, by decide +kernel⟩ hR
def f_X8_empty  : Int32 × Int32 × Int32 × Int32 :=
  bnd2 (f_X4_empty) fun (y1 : Int32) (y2 : Int32) =>
  (0, y1, y2, 0)
set_option maxHeartbeats 4000000 in
set_option maxRecDepth 100000 in
theorem c_X8_empty (l : Launch) (D : va_G) (cI cJ cC : ClassId) (h0 h1 h2 h3 kthis_values kthis_audio_rates kthis_plan_lengths kthis_plan_rates kthis_video_rates : Nat) (v1_most v1_rungs v2_total v2_phases v3_most v3_rungs : Int32) (sz : Nat)  (T : Int32 × Int32 × Int32 × Int32) (h : f_X8_empty = T) : Met l yX8_empty (Cond.code yX8_empty cX8_empty 1 none :: TB) rm_X8_empty (PreW D cI cJ cC [(h0, .inr (8, [.ref kthis_values, .ref h3, .ref h1, .ref h2])), (h1, .inr (2, [.ref kthis_audio_rates, .int v1_most, .int v1_rungs])), (h2, .inr (4, [.ref kthis_plan_lengths, .ref kthis_plan_rates, .int v2_total, .int v2_phases])), (h3, .inr (2, [.ref kthis_video_rates, .int v3_most, .int v3_rungs]))] sz [.ref h0]) (QW none D [(h0, .inr (8, [.ref kthis_values, .ref h3, .ref h1, .ref h2])), (h1, .inr (2, [.ref kthis_audio_rates, .int v1_most, .int T.1])), (h2, .inr (4, [.ref kthis_plan_lengths, .ref kthis_plan_rates, .int T.2.1, .int T.2.2.1])), (h3, .inr (2, [.ref kthis_video_rates, .int v3_most, .int T.2.2.2]))] (va_A [(h0, .inr (8, [.ref kthis_values, .ref h3, .ref h1, .ref h2])), (h1, .inr (2, [.ref kthis_audio_rates, .int v1_most, .int v1_rungs])), (h2, .inr (4, [.ref kthis_plan_lengths, .ref kthis_plan_rates, .int v2_total, .int v2_phases])), (h3, .inr (2, [.ref kthis_video_rates, .int v3_most, .int v3_rungs]))] sz)) 0 0 (va_A [(h0, .inr (8, [.ref kthis_values, .ref h3, .ref h1, .ref h2])), (h1, .inr (2, [.ref kthis_audio_rates, .int v1_most, .int v1_rungs])), (h2, .inr (4, [.ref kthis_plan_lengths, .ref kthis_plan_rates, .int v2_total, .int v2_phases])), (h3, .inr (2, [.ref kthis_video_rates, .int v3_most, .int v3_rungs]))] sz) := by
  refine metW (own := RX8) (by decide) rfl (Nat.le_of_ble_eq_true rfl) ?_
  intro p e s m below meth c S hr hlk hP hK A hAe hD hA hS ls hl
  clear hAe
  have hx := S.1
  have hb := S.2.1
  have hl : lv_has ls 1 [(0, .ref h0)] := hl
  refine lv_aload_n hx hb dX8_empty_0 rfl (lv_at hl 0 rfl) ?_
  refine gf_X8_28 (v := .ref h3) S hK hP 0 rfl rfl dX8_empty_1 ?_
  refine lv_iconst (v := 0) hx hb dX8_empty_4 li_0 ?_
  refine pf_X8_52 (v := .int 0) S hK hP hD hS 3 rfl (Nat.le_of_ble_eq_true rfl) rfl dX8_empty_5 (fun H locs hP hD hS => ?_)
  have hP : va_P D vwCl [(h0, .inr (8, [.ref kthis_values, .ref h3, .ref h1, .ref h2])), (h1, .inr (2, [.ref kthis_audio_rates, .int v1_most, .int v1_rungs])), (h2, .inr (4, [.ref kthis_plan_lengths, .ref kthis_plan_rates, .int v2_total, .int v2_phases])), (h3, .inr (2, [.ref kthis_video_rates, .int v3_most, .int 0]))] H := hP
  have hD : va_D A [(h0, .inr (8, [.ref kthis_values, .ref h3, .ref h1, .ref h2])), (h1, .inr (2, [.ref kthis_audio_rates, .int v1_most, .int v1_rungs])), (h2, .inr (4, [.ref kthis_plan_lengths, .ref kthis_plan_rates, .int v2_total, .int v2_phases])), (h3, .inr (2, [.ref kthis_video_rates, .int v3_most, .int 0]))] := hD
  refine lv_aload_n hx hb dX8_empty_8 rfl (lv_at hl 0 rfl) ?_
  refine gf_X8_32 (v := .ref h1) S hK hP 0 rfl rfl dX8_empty_9 ?_
  refine lv_iconst (v := 0) hx hb dX8_empty_12 li_0 ?_
  refine pf_X8_52 (v := .int 0) S hK hP hD hS 1 rfl (Nat.le_of_ble_eq_true rfl) rfl dX8_empty_13 (fun H locs hP hD hS => ?_)
  have hP : va_P D vwCl [(h0, .inr (8, [.ref kthis_values, .ref h3, .ref h1, .ref h2])), (h1, .inr (2, [.ref kthis_audio_rates, .int v1_most, .int 0])), (h2, .inr (4, [.ref kthis_plan_lengths, .ref kthis_plan_rates, .int v2_total, .int v2_phases])), (h3, .inr (2, [.ref kthis_video_rates, .int v3_most, .int 0]))] H := hP
  have hD : va_D A [(h0, .inr (8, [.ref kthis_values, .ref h3, .ref h1, .ref h2])), (h1, .inr (2, [.ref kthis_audio_rates, .int v1_most, .int 0])), (h2, .inr (4, [.ref kthis_plan_lengths, .ref kthis_plan_rates, .int v2_total, .int v2_phases])), (h3, .inr (2, [.ref kthis_video_rates, .int v3_most, .int 0]))] := hD
  refine lv_aload_n hx hb dX8_empty_16 rfl (lv_at hl 0 rfl) ?_
  refine gf_X8_38 (v := .ref h2) S hK hP 0 rfl rfl dX8_empty_17 ?_
  obtain ⟨y1, y2, e_y1⟩ : ∃ a0 a1, f_X4_empty = (a0, a1) := ⟨_, _, rfl⟩
  have h := bnd2_eq e_y1 h
  refine wrV (pc1 := 23) (rest := []) (st1 := []) (wr := [(h0, .inr (8, [.ref kthis_values, .ref h3, .ref h1, .ref h2])), (h1, .inr (2, [.ref kthis_audio_rates, .int v1_most, .int 0])), (h3, .inr (2, [.ref kthis_video_rates, .int v3_most, .int 0]))]) S (c_X4_empty l D cI cJ cC h2 kthis_plan_lengths kthis_plan_rates v2_total v2_phases H.size  (y1, y2) e_y1) (cw_X8_56 S.2.2.2.2 ⟨Nat.le_of_ble_eq_true rfl, Nat.le_of_ble_eq_true rfl⟩) hK hP hD hS hA [2] [0, 1, 3] rfl rfl rfl (by decide) (by decide) (by decide) rfl rfl rfl rfl hl.1 rfl (Nat.le_of_ble_eq_true rfl) ⟨Nat.zero_le _, Nat.zero_le _⟩ rfl rfl dX8_empty_20 (fun H locs hP hD hS => ?_)
  have hP : va_P D vwCl [(h0, .inr (8, [.ref kthis_values, .ref h3, .ref h1, .ref h2])), (h1, .inr (2, [.ref kthis_audio_rates, .int v1_most, .int 0])), (h3, .inr (2, [.ref kthis_video_rates, .int v3_most, .int 0])), (h2, .inr (4, [.ref kthis_plan_lengths, .ref kthis_plan_rates, .int y1, .int y2]))] H := hP
  have hD : va_D A [(h0, .inr (8, [.ref kthis_values, .ref h3, .ref h1, .ref h2])), (h1, .inr (2, [.ref kthis_audio_rates, .int v1_most, .int 0])), (h3, .inr (2, [.ref kthis_video_rates, .int v3_most, .int 0])), (h2, .inr (4, [.ref kthis_plan_lengths, .ref kthis_plan_rates, .int y1, .int y2]))] := hD
  subst h
  exact wRv S hr hlk (hP.sub [0, 1, 3, 2] rfl) (hD.sub [0, 1, 3, 2] (by decide) rfl) hS dX8_empty_23
abbrev rm_X8_ladderOf : Room := { frames := 0, cells := 0, slots := 0, locals := 0 }
theorem dX8_ladderOf_0 : decode cX8_ladderOf 0 = .ok (.iload_n 1, 1) := by decide +kernel
theorem dX8_ladderOf_1 : decode cX8_ladderOf 1 = .ok (.ifCond .ne 10, 3) := by decide +kernel
theorem dX8_ladderOf_4 : decode cX8_ladderOf 4 = .ok (.aload_n 0, 1) := by decide +kernel
theorem dX8_ladderOf_5 : decode cX8_ladderOf 5 = .ok (.getfield 28, 3) := by decide +kernel
theorem dX8_ladderOf_8 : decode cX8_ladderOf 8 = .ok (.goto 7, 3) := by decide +kernel
theorem dX8_ladderOf_11 : decode cX8_ladderOf 11 = .ok (.aload_n 0, 1) := by decide +kernel
theorem dX8_ladderOf_12 : decode cX8_ladderOf 12 = .ok (.getfield 32, 3) := by decide +kernel
theorem dX8_ladderOf_15 : decode cX8_ladderOf 15 = .ok (.areturn, 1) := by decide +kernel
set_option maxHeartbeats 4000000 in
set_option maxRecDepth 100000 in
theorem c_X8_ladderOf_0 (l : Launch) (D : va_G) (cI cJ cC : ClassId) (h0 kthis_values kthis_video kthis_audio kthis_plan : Nat)  (p0 : Int32) (hv : p0 = 0) : Met l yX8_ladderOf (Cond.code yX8_ladderOf cX8_ladderOf 2 (some (.object "StreamPlayer$Ladder")) :: TB) rm_X8_ladderOf (PreR D cI cJ cC [(h0, .inr (8, [.ref kthis_values, .ref kthis_video, .ref kthis_audio, .ref kthis_plan]))] [.ref h0, .int p0]) (QR (some (.ref kthis_video))) 0 0 free0 := by
  refine metR (own := RX8) (by decide) rfl (Nat.le_of_ble_eq_true rfl) ?_
  intro p e s m below meth c S hr hlk hP hK ls hl
  have hx := S.1
  have hb := S.2.1
  have hl : lv_has ls 2 [(0, .ref h0), (1, .int p0)] := hl
  refine lv_iload_n hx hb dX8_ladderOf_0 rfl (lv_at hl 1 rfl) ?_
  refine lv_if_ne (tgt := 11) hx hb dX8_ladderOf_1 (by decide) (fun c9 => absurd hv c9) (fun _ => ?_)
  refine lv_aload_n hx hb dX8_ladderOf_4 rfl (lv_at hl 0 rfl) ?_
  refine gf_X8_28 (v := .ref kthis_video) S hK hP 0 rfl rfl dX8_ladderOf_5 ?_
  refine lv_goto (tgt := 15) hx hb dX8_ladderOf_8 (by decide) ?_
  exact rRa S hr hlk dX8_ladderOf_15
set_option maxHeartbeats 4000000 in
set_option maxRecDepth 100000 in
theorem c_X8_ladderOf_1 (l : Launch) (D : va_G) (cI cJ cC : ClassId) (h0 kthis_values kthis_video kthis_audio kthis_plan : Nat)  (p0 : Int32) (hv : ¬ p0 = 0) : Met l yX8_ladderOf (Cond.code yX8_ladderOf cX8_ladderOf 2 (some (.object "StreamPlayer$Ladder")) :: TB) rm_X8_ladderOf (PreR D cI cJ cC [(h0, .inr (8, [.ref kthis_values, .ref kthis_video, .ref kthis_audio, .ref kthis_plan]))] [.ref h0, .int p0]) (QR (some (.ref kthis_audio))) 0 0 free0 := by
  refine metR (own := RX8) (by decide) rfl (Nat.le_of_ble_eq_true rfl) ?_
  intro p e s m below meth c S hr hlk hP hK ls hl
  have hx := S.1
  have hb := S.2.1
  have hl : lv_has ls 2 [(0, .ref h0), (1, .int p0)] := hl
  refine lv_iload_n hx hb dX8_ladderOf_0 rfl (lv_at hl 1 rfl) ?_
  refine lv_if_ne (tgt := 11) hx hb dX8_ladderOf_1 (by decide) (fun _ => ?_) (fun c9 => absurd c9 hv)
  refine lv_aload_n hx hb dX8_ladderOf_11 rfl (lv_at hl 0 rfl) ?_
  refine gf_X8_32 (v := .ref kthis_audio) S hK hP 0 rfl rfl dX8_ladderOf_12 ?_
  exact rRa S hr hlk dX8_ladderOf_15
abbrev rm_X8_hasAudio : Room := { frames := 0, cells := 0, slots := 0, locals := 0 }
theorem dX8_hasAudio_0 : decode cX8_hasAudio 0 = .ok (.aload_n 0, 1) := by decide +kernel
theorem dX8_hasAudio_1 : decode cX8_hasAudio 1 = .ok (.getfield 32, 3) := by decide +kernel
theorem dX8_hasAudio_4 : decode cX8_hasAudio 4 = .ok (.getfield 52, 3) := by decide +kernel
theorem dX8_hasAudio_7 : decode cX8_hasAudio 7 = .ok (.ifCond .le 7, 3) := by decide +kernel
theorem dX8_hasAudio_10 : decode cX8_hasAudio 10 = .ok (.iconst 1, 1) := by decide +kernel
theorem dX8_hasAudio_11 : decode cX8_hasAudio 11 = .ok (.goto 4, 3) := by decide +kernel
theorem dX8_hasAudio_14 : decode cX8_hasAudio 14 = .ok (.iconst 0, 1) := by decide +kernel
theorem dX8_hasAudio_15 : decode cX8_hasAudio 15 = .ok (.ireturn, 1) := by decide +kernel
theorem gf_X8_52 {p : Program} {l : Launch} {e : Env} {R : Room} {s : State} {m : MethodId} {args : Array Value} {below : List Frame} {meth : Method} {c : Code} {H : Heap} {locs : List Loc} {cells slots : Nat} {Q : State → Prop} {cc : ByteArray} {pc nL : Nat} {ls : Array Slot} {rest : List Value} {D : va_G} {ws : va_W} {tys : List (ClassId × FieldType)} (S : CallFix p m c cc nL s args TB RX8) (hK : va_K D vwCl tys s) (hP : va_P D vwCl ws H) (q0 : Nat) {a : Nat} {fs : List Value} (he : ws[q0]? = some (a, .inr (2, fs))) {v : Value} (hv : fs[2]? = some v) (hdg : decode cc pc = .ok (.getfield 52, 3))
    (kk : W p l e R s m args below meth c H locs cells slots Q (F0 m (pc + 3) ls (v :: rest))) : W p l e R s m args below meth c H locs cells slots Q (F0 m pc ls (.ref a :: rest)) :=
  va_get (D := D) (ci := 2) (C := RX2) (T := TX2) (N := 3) S.1 S.2.1 S.2.2.2.2 iwX2 S.2.2.2.1 hK hP q0 he rfl 2 (by decide) (S.2.2.2.2 _ tb67) (fun _ h9 => h9) hv hdg kk
def f_X8_hasAudio (v1_rungs : Int32) : Int32 :=
  if v1_rungs ≤ 0 then
    0
  else
    1
set_option maxHeartbeats 4000000 in
set_option maxRecDepth 100000 in
theorem c_X8_hasAudio (l : Launch) (D : va_G) (cI cJ cC : ClassId) (h0 h1 kthis_values kthis_video kthis_plan kthis_audio_rates : Nat) (v1_most v1_rungs : Int32)  (t0 : Int32) (h : f_X8_hasAudio v1_rungs = t0) : Met l yX8_hasAudio (Cond.code yX8_hasAudio cX8_hasAudio 1 (some .boolean) :: TB) rm_X8_hasAudio (PreR D cI cJ cC [(h0, .inr (8, [.ref kthis_values, .ref kthis_video, .ref h1, .ref kthis_plan])), (h1, .inr (2, [.ref kthis_audio_rates, .int v1_most, .int v1_rungs]))] [.ref h0]) (QR (some (.int t0))) 0 0 free0 := by
  refine metR (own := RX8) (by decide) rfl (Nat.le_of_ble_eq_true rfl) ?_
  intro p e s m below meth c S hr hlk hP hK ls hl
  have hx := S.1
  have hb := S.2.1
  have hl : lv_has ls 1 [(0, .ref h0)] := hl
  refine lv_aload_n hx hb dX8_hasAudio_0 rfl (lv_at hl 0 rfl) ?_
  refine gf_X8_32 (v := .ref h1) S hK hP 0 rfl rfl dX8_hasAudio_1 ?_
  refine gf_X8_52 (v := .int v1_rungs) S hK hP 1 rfl rfl dX8_hasAudio_4 ?_
  refine lv_if_le (tgt := 14) hx hb dX8_hasAudio_7 (by decide) (fun c1 => ?_) (fun c1 => ?_)
  · have h := iteP c1 h
    refine lv_iconst (v := 0) hx hb dX8_hasAudio_14 li_0 ?_
    subst h
    exact rRz S hr hlk (by decide) dX8_hasAudio_15
  · have h := iteN c1 h
    refine lv_iconst (v := 1) hx hb dX8_hasAudio_10 li_1 ?_
    refine lv_goto (tgt := 15) hx hb dX8_hasAudio_11 (by decide) ?_
    subst h
    exact rRz S hr hlk (by decide) dX8_hasAudio_15
abbrev rm_X8_isPlayable : Room := { frames := 0, cells := 0, slots := 0, locals := 0 }
theorem dX8_isPlayable_0 : decode cX8_isPlayable 0 = .ok (.aload_n 0, 1) := by decide +kernel
theorem dX8_isPlayable_1 : decode cX8_isPlayable 1 = .ok (.getfield 28, 3) := by decide +kernel
theorem dX8_isPlayable_4 : decode cX8_isPlayable 4 = .ok (.getfield 52, 3) := by decide +kernel
theorem dX8_isPlayable_7 : decode cX8_isPlayable 7 = .ok (.ifCond .le 17, 3) := by decide +kernel
theorem dX8_isPlayable_10 : decode cX8_isPlayable 10 = .ok (.aload_n 0, 1) := by decide +kernel
theorem dX8_isPlayable_11 : decode cX8_isPlayable 11 = .ok (.getfield 38, 3) := by decide +kernel
theorem dX8_isPlayable_14 : decode cX8_isPlayable 14 = .ok (.getfield 59, 3) := by decide +kernel
theorem dX8_isPlayable_17 : decode cX8_isPlayable 17 = .ok (.ifCond .le 7, 3) := by decide +kernel
theorem dX8_isPlayable_20 : decode cX8_isPlayable 20 = .ok (.iconst 1, 1) := by decide +kernel
theorem dX8_isPlayable_21 : decode cX8_isPlayable 21 = .ok (.goto 4, 3) := by decide +kernel
theorem dX8_isPlayable_24 : decode cX8_isPlayable 24 = .ok (.iconst 0, 1) := by decide +kernel
theorem dX8_isPlayable_25 : decode cX8_isPlayable 25 = .ok (.ireturn, 1) := by decide +kernel
theorem gf_X8_59 {p : Program} {l : Launch} {e : Env} {R : Room} {s : State} {m : MethodId} {args : Array Value} {below : List Frame} {meth : Method} {c : Code} {H : Heap} {locs : List Loc} {cells slots : Nat} {Q : State → Prop} {cc : ByteArray} {pc nL : Nat} {ls : Array Slot} {rest : List Value} {D : va_G} {ws : va_W} {tys : List (ClassId × FieldType)} (S : CallFix p m c cc nL s args TB RX8) (hK : va_K D vwCl tys s) (hP : va_P D vwCl ws H) (q0 : Nat) {a : Nat} {fs : List Value} (he : ws[q0]? = some (a, .inr (4, fs))) {v : Value} (hv : fs[3]? = some v) (hdg : decode cc pc = .ok (.getfield 59, 3))
    (kk : W p l e R s m args below meth c H locs cells slots Q (F0 m (pc + 3) ls (v :: rest))) : W p l e R s m args below meth c H locs cells slots Q (F0 m pc ls (.ref a :: rest)) :=
  va_get (D := D) (ci := 4) (C := RX4) (T := TX4) (N := 4) S.1 S.2.1 S.2.2.2.2 iwX4 S.2.2.2.1 hK hP q0 he rfl 3 (by decide) (S.2.2.2.2 _ tb88) (fun _ h9 => h9) hv hdg kk
def f_X8_isPlayable (v1_phases v2_rungs : Int32) : Int32 :=
  if v2_rungs ≤ 0 then
    0
  else
    if v1_phases ≤ 0 then
      0
    else
      1
set_option maxHeartbeats 4000000 in
set_option maxRecDepth 100000 in
theorem c_X8_isPlayable (l : Launch) (D : va_G) (cI cJ cC : ClassId) (h0 h1 h2 kthis_values kthis_audio kthis_plan_lengths kthis_plan_rates kthis_video_rates : Nat) (v1_total v1_phases v2_most v2_rungs : Int32)  (t0 : Int32) (h : f_X8_isPlayable v1_phases v2_rungs = t0) : Met l yX8_isPlayable (Cond.code yX8_isPlayable cX8_isPlayable 1 (some .boolean) :: TB) rm_X8_isPlayable (PreR D cI cJ cC [(h0, .inr (8, [.ref kthis_values, .ref h2, .ref kthis_audio, .ref h1])), (h1, .inr (4, [.ref kthis_plan_lengths, .ref kthis_plan_rates, .int v1_total, .int v1_phases])), (h2, .inr (2, [.ref kthis_video_rates, .int v2_most, .int v2_rungs]))] [.ref h0]) (QR (some (.int t0))) 0 0 free0 := by
  refine metR (own := RX8) (by decide) rfl (Nat.le_of_ble_eq_true rfl) ?_
  intro p e s m below meth c S hr hlk hP hK ls hl
  have hx := S.1
  have hb := S.2.1
  have hl : lv_has ls 1 [(0, .ref h0)] := hl
  refine lv_aload_n hx hb dX8_isPlayable_0 rfl (lv_at hl 0 rfl) ?_
  refine gf_X8_28 (v := .ref h2) S hK hP 0 rfl rfl dX8_isPlayable_1 ?_
  refine gf_X8_52 (v := .int v2_rungs) S hK hP 2 rfl rfl dX8_isPlayable_4 ?_
  refine lv_if_le (tgt := 24) hx hb dX8_isPlayable_7 (by decide) (fun c1 => ?_) (fun c1 => ?_)
  · have h := iteP c1 h
    refine lv_iconst (v := 0) hx hb dX8_isPlayable_24 li_0 ?_
    subst h
    exact rRz S hr hlk (by decide) dX8_isPlayable_25
  · have h := iteN c1 h
    refine lv_aload_n hx hb dX8_isPlayable_10 rfl (lv_at hl 0 rfl) ?_
    refine gf_X8_38 (v := .ref h1) S hK hP 0 rfl rfl dX8_isPlayable_11 ?_
    refine gf_X8_59 (v := .int v1_phases) S hK hP 1 rfl rfl dX8_isPlayable_14 ?_
    refine lv_if_le (tgt := 24) hx hb dX8_isPlayable_17 (by decide) (fun c2 => ?_) (fun c2 => ?_)
    · have h := iteP c2 h
      refine lv_iconst (v := 0) hx hb dX8_isPlayable_24 li_0 ?_
      subst h
      exact rRz S hr hlk (by decide) dX8_isPlayable_25
    · have h := iteN c2 h
      refine lv_iconst (v := 1) hx hb dX8_isPlayable_20 li_1 ?_
      refine lv_goto (tgt := 25) hx hb dX8_isPlayable_21 (by decide) ?_
      subst h
      exact rRz S hr hlk (by decide) dX8_isPlayable_25
abbrev rm_X8_isLive : Room := { frames := 1, cells := 0, slots := 0, locals := 21 }
theorem dX8_isLive_0 : decode cX8_isLive 0 = .ok (.aload_n 0, 1) := by decide +kernel
theorem dX8_isLive_1 : decode cX8_isLive 1 = .ok (.bipush 13, 2) := by decide +kernel
theorem dX8_isLive_3 : decode cX8_isLive 3 = .ok (.invokevirtual 48, 3) := by decide +kernel
theorem dX8_isLive_6 : decode cX8_isLive 6 = .ok (.ifCond .le 7, 3) := by decide +kernel
theorem dX8_isLive_9 : decode cX8_isLive 9 = .ok (.iconst 1, 1) := by decide +kernel
theorem dX8_isLive_10 : decode cX8_isLive 10 = .ok (.goto 4, 3) := by decide +kernel
theorem dX8_isLive_13 : decode cX8_isLive 13 = .ok (.iconst 0, 1) := by decide +kernel
theorem dX8_isLive_14 : decode cX8_isLive 14 = .ok (.ireturn, 1) := by decide +kernel
def f_X8_isLive (r1 : Nat → Int32) : Int32 :=
  if (f_X8_valueOf r1 13) ≤ 0 then
    0
  else
    1
set_option maxHeartbeats 4000000 in
set_option maxRecDepth 100000 in
theorem c_X8_isLive (l : Launch) (D : va_G) (cI cJ cC : ClassId) (h0 h1 kthis_video kthis_audio kthis_plan : Nat) (r1 : Nat → Int32)  (t0 : Int32) (h : f_X8_isLive r1 = t0) : Met l yX8_isLive (Cond.code yX8_isLive cX8_isLive 1 (some .boolean) :: TB) rm_X8_isLive (PreR D cI cJ cC [(h0, .inr (8, [.ref h1, .ref kthis_video, .ref kthis_audio, .ref kthis_plan])), (h1, .inl (cI, 15, .inl r1))] [.ref h0]) (QR (some (.int t0))) 0 0 free0 := by
  refine metR (own := RX8) (by decide) rfl (Nat.le_of_ble_eq_true rfl) ?_
  intro p e s m below meth c S hr hlk hP hK ls hl
  have hx := S.1
  have hb := S.2.1
  have hl : lv_has ls 1 [(0, .ref h0)] := hl
  refine lv_aload_n hx hb dX8_isLive_0 rfl (lv_at hl 0 rfl) ?_
  refine lv_bipush (v := 13) hx hb dX8_isLive_1 lb_13 ?_
  refine rdV (pc1 := 6) (rest := []) (st1 := [.int (f_X8_valueOf r1 13)]) S (c_X8_valueOf l D cI cJ cC h0 h1 kthis_video kthis_audio kthis_plan r1 13 _ rfl) (cw_X8_48 S.2.2.2.2 ⟨Nat.le_of_ble_eq_true rfl, Nat.le_of_ble_eq_true rfl⟩) hK (hP.sub [0, 1] rfl) rfl rfl rfl rfl hl.1 rfl (Nat.le_of_ble_eq_true rfl) ⟨Nat.zero_le _, Nat.zero_le _⟩ rfl rfl dX8_isLive_3 ?_
  refine lv_if_le (tgt := 13) hx hb dX8_isLive_6 (by decide) (fun c1 => ?_) (fun c1 => ?_)
  · have h := iteP c1 h
    refine lv_iconst (v := 0) hx hb dX8_isLive_13 li_0 ?_
    subst h
    exact rRz S hr hlk (by decide) dX8_isLive_14
  · have h := iteN c1 h
    refine lv_iconst (v := 1) hx hb dX8_isLive_9 li_1 ?_
    refine lv_goto (tgt := 14) hx hb dX8_isLive_10 (by decide) ?_
    subst h
    exact rRz S hr hlk (by decide) dX8_isLive_14
abbrev rm_X8_isAvailable : Room := { frames := 1, cells := 0, slots := 0, locals := 21 }
theorem dX8_isAvailable_0 : decode cX8_isAvailable 0 = .ok (.aload_n 0, 1) := by decide +kernel
theorem dX8_isAvailable_1 : decode cX8_isAvailable 1 = .ok (.bipush 13, 2) := by decide +kernel
theorem dX8_isAvailable_3 : decode cX8_isAvailable 3 = .ok (.invokevirtual 48, 3) := by decide +kernel
theorem dX8_isAvailable_6 : decode cX8_isAvailable 6 = .ok (.istore_n 3, 1) := by decide +kernel
theorem dX8_isAvailable_7 : decode cX8_isAvailable 7 = .ok (.iload_n 3, 1) := by decide +kernel
theorem dX8_isAvailable_8 : decode cX8_isAvailable 8 = .ok (.ifCond .eq 18, 3) := by decide +kernel
theorem dX8_isAvailable_11 : decode cX8_isAvailable 11 = .ok (.iload_n 2, 1) := by decide +kernel
theorem dX8_isAvailable_12 : decode cX8_isAvailable 12 = .ok (.iload_n 1, 1) := by decide +kernel
theorem dX8_isAvailable_13 : decode cX8_isAvailable 13 = .ok (.iconst 1, 1) := by decide +kernel
theorem dX8_isAvailable_14 : decode cX8_isAvailable 14 = .ok (.iadd, 1) := by decide +kernel
theorem dX8_isAvailable_15 : decode cX8_isAvailable 15 = .ok (.aload_n 0, 1) := by decide +kernel
theorem dX8_isAvailable_16 : decode cX8_isAvailable 16 = .ok (.iconst 0, 1) := by decide +kernel
theorem dX8_isAvailable_17 : decode cX8_isAvailable 17 = .ok (.invokevirtual 48, 3) := by decide +kernel
theorem dX8_isAvailable_20 : decode cX8_isAvailable 20 = .ok (.imul, 1) := by decide +kernel
theorem dX8_isAvailable_21 : decode cX8_isAvailable 21 = .ok (.iload_n 3, 1) := by decide +kernel
theorem dX8_isAvailable_22 : decode cX8_isAvailable 22 = .ok (.isub, 1) := by decide +kernel
theorem dX8_isAvailable_23 : decode cX8_isAvailable 23 = .ok (.if_icmp .lt 7, 3) := by decide +kernel
theorem dX8_isAvailable_26 : decode cX8_isAvailable 26 = .ok (.iconst 1, 1) := by decide +kernel
theorem dX8_isAvailable_27 : decode cX8_isAvailable 27 = .ok (.goto 4, 3) := by decide +kernel
theorem dX8_isAvailable_30 : decode cX8_isAvailable 30 = .ok (.iconst 0, 1) := by decide +kernel
theorem dX8_isAvailable_31 : decode cX8_isAvailable 31 = .ok (.ireturn, 1) := by decide +kernel
def f_X8_isAvailable (r1 : Nat → Int32) (p0 p1 : Int32) : Int32 :=
  if (f_X8_valueOf r1 13) = 0 then
    1
  else
    if p1 < (((p0 + 1) * (f_X8_valueOf r1 0)) - (f_X8_valueOf r1 13)) then
      0
    else
      1
set_option maxHeartbeats 4000000 in
set_option maxRecDepth 100000 in
theorem c_X8_isAvailable (l : Launch) (D : va_G) (cI cJ cC : ClassId) (h0 h1 kthis_video kthis_audio kthis_plan : Nat) (r1 : Nat → Int32) (p0 p1 : Int32) (t0 : Int32) (h : f_X8_isAvailable r1 p0 p1 = t0) : Met l yX8_isAvailable (Cond.code yX8_isAvailable cX8_isAvailable 4 (some .boolean) :: TB) rm_X8_isAvailable (PreR D cI cJ cC [(h0, .inr (8, [.ref h1, .ref kthis_video, .ref kthis_audio, .ref kthis_plan])), (h1, .inl (cI, 15, .inl r1))] [.ref h0, .int p0, .int p1]) (QR (some (.int t0))) 0 0 free0 := by
  refine metR (own := RX8) (by decide) rfl (Nat.le_of_ble_eq_true rfl) ?_
  intro p e s m below meth c S hr hlk hP hK ls hl
  have hx := S.1
  have hb := S.2.1
  have hl : lv_has ls 4 [(0, .ref h0), (1, .int p0), (2, .int p1)] := hl
  refine lv_aload_n hx hb dX8_isAvailable_0 rfl (lv_at hl 0 rfl) ?_
  refine lv_bipush (v := 13) hx hb dX8_isAvailable_1 lb_13 ?_
  refine rdV (pc1 := 6) (rest := []) (st1 := [.int (f_X8_valueOf r1 13)]) S (c_X8_valueOf l D cI cJ cC h0 h1 kthis_video kthis_audio kthis_plan r1 13 _ rfl) (cw_X8_48 S.2.2.2.2 ⟨Nat.le_of_ble_eq_true rfl, Nat.le_of_ble_eq_true rfl⟩) hK (hP.sub [0, 1] rfl) rfl rfl rfl rfl hl.1 rfl (Nat.le_of_ble_eq_true rfl) ⟨Nat.zero_le _, Nat.zero_le _⟩ rfl rfl dX8_isAvailable_3 ?_
  refine lv_istore_n (lv' := [(3, .int (f_X8_valueOf r1 13)), (0, .ref h0), (1, .int p0), (2, .int p1)]) hx hb dX8_isAvailable_6 rfl hl (by decide) rfl (fun ls hl => ?_)
  refine lv_iload_n hx hb dX8_isAvailable_7 rfl (lv_at hl 0 rfl) ?_
  refine lv_if_eq (tgt := 26) hx hb dX8_isAvailable_8 (by decide) (fun c1 => ?_) (fun c1 => ?_)
  · have h := iteP c1 h
    refine lv_iconst (v := 1) hx hb dX8_isAvailable_26 li_1 ?_
    refine lv_goto (tgt := 31) hx hb dX8_isAvailable_27 (by decide) ?_
    subst h
    exact rRz S hr hlk (by decide) dX8_isAvailable_31
  · have h := iteN c1 h
    refine lv_iload_n hx hb dX8_isAvailable_11 rfl (lv_at hl 3 rfl) ?_
    refine lv_iload_n hx hb dX8_isAvailable_12 rfl (lv_at hl 2 rfl) ?_
    refine lv_iconst (v := 1) hx hb dX8_isAvailable_13 li_1 ?_
    refine lv_iadd hx hb dX8_isAvailable_14 ?_
    refine lv_aload_n hx hb dX8_isAvailable_15 rfl (lv_at hl 1 rfl) ?_
    refine lv_iconst (v := 0) hx hb dX8_isAvailable_16 li_0 ?_
    refine rdV (pc1 := 20) (rest := [.int (p0 + 1), .int p1]) (st1 := [.int (f_X8_valueOf r1 0), .int (p0 + 1), .int p1]) S (c_X8_valueOf l D cI cJ cC h0 h1 kthis_video kthis_audio kthis_plan r1 0 _ rfl) (cw_X8_48 S.2.2.2.2 ⟨Nat.le_of_ble_eq_true rfl, Nat.le_of_ble_eq_true rfl⟩) hK (hP.sub [0, 1] rfl) rfl rfl rfl rfl hl.1 rfl (Nat.le_of_ble_eq_true rfl) ⟨Nat.zero_le _, Nat.zero_le _⟩ rfl rfl dX8_isAvailable_17 ?_
    refine lv_imul hx hb dX8_isAvailable_20 ?_
    refine lv_iload_n hx hb dX8_isAvailable_21 rfl (lv_at hl 0 rfl) ?_
    refine lv_isub hx hb dX8_isAvailable_22 ?_
    refine lv_icmp_lt (tgt := 30) hx hb dX8_isAvailable_23 (by decide) (fun c2 => ?_) (fun c2 => ?_)
    · have h := iteP c2 h
      refine lv_iconst (v := 0) hx hb dX8_isAvailable_30 li_0 ?_
      subst h
      exact rRz S hr hlk (by decide) dX8_isAvailable_31
    · have h := iteN c2 h
      refine lv_iconst (v := 1) hx hb dX8_isAvailable_26 li_1 ?_
      refine lv_goto (tgt := 31) hx hb dX8_isAvailable_27 (by decide) ?_
      subst h
      exact rRz S hr hlk (by decide) dX8_isAvailable_31
abbrev rm_X8_segmentAt : Room := { frames := 1, cells := 0, slots := 0, locals := 21 }
theorem dX8_segmentAt_0 : decode cX8_segmentAt 0 = .ok (.aload_n 0, 1) := by decide +kernel
theorem dX8_segmentAt_1 : decode cX8_segmentAt 1 = .ok (.iconst 0, 1) := by decide +kernel
theorem dX8_segmentAt_2 : decode cX8_segmentAt 2 = .ok (.invokevirtual 48, 3) := by decide +kernel
theorem dX8_segmentAt_5 : decode cX8_segmentAt 5 = .ok (.istore_n 2, 1) := by decide +kernel
theorem dX8_segmentAt_6 : decode cX8_segmentAt 6 = .ok (.iload_n 2, 1) := by decide +kernel
theorem dX8_segmentAt_7 : decode cX8_segmentAt 7 = .ok (.ifCond .le 9, 3) := by decide +kernel
theorem dX8_segmentAt_10 : decode cX8_segmentAt 10 = .ok (.iload_n 1, 1) := by decide +kernel
theorem dX8_segmentAt_11 : decode cX8_segmentAt 11 = .ok (.iload_n 2, 1) := by decide +kernel
theorem dX8_segmentAt_12 : decode cX8_segmentAt 12 = .ok (.idiv, 1) := by decide +kernel
theorem dX8_segmentAt_13 : decode cX8_segmentAt 13 = .ok (.goto 4, 3) := by decide +kernel
theorem dX8_segmentAt_16 : decode cX8_segmentAt 16 = .ok (.iconst 0, 1) := by decide +kernel
theorem dX8_segmentAt_17 : decode cX8_segmentAt 17 = .ok (.ireturn, 1) := by decide +kernel
def f_X8_segmentAt (r1 : Nat → Int32) (p0 : Int32) : Int32 :=
  if (f_X8_valueOf r1 0) ≤ 0 then
    0
  else
    p0 / (f_X8_valueOf r1 0)
set_option maxHeartbeats 4000000 in
set_option maxRecDepth 100000 in
theorem c_X8_segmentAt (l : Launch) (D : va_G) (cI cJ cC : ClassId) (h0 h1 kthis_video kthis_audio kthis_plan : Nat) (r1 : Nat → Int32) (p0 : Int32) (t0 : Int32) (h : f_X8_segmentAt r1 p0 = t0) : Met l yX8_segmentAt (Cond.code yX8_segmentAt cX8_segmentAt 3 (some .int) :: TB) rm_X8_segmentAt (PreR D cI cJ cC [(h0, .inr (8, [.ref h1, .ref kthis_video, .ref kthis_audio, .ref kthis_plan])), (h1, .inl (cI, 15, .inl r1))] [.ref h0, .int p0]) (QR (some (.int t0))) 0 0 free0 := by
  refine metR (own := RX8) (by decide) rfl (Nat.le_of_ble_eq_true rfl) ?_
  intro p e s m below meth c S hr hlk hP hK ls hl
  have hx := S.1
  have hb := S.2.1
  have hl : lv_has ls 3 [(0, .ref h0), (1, .int p0)] := hl
  refine lv_aload_n hx hb dX8_segmentAt_0 rfl (lv_at hl 0 rfl) ?_
  refine lv_iconst (v := 0) hx hb dX8_segmentAt_1 li_0 ?_
  refine rdV (pc1 := 5) (rest := []) (st1 := [.int (f_X8_valueOf r1 0)]) S (c_X8_valueOf l D cI cJ cC h0 h1 kthis_video kthis_audio kthis_plan r1 0 _ rfl) (cw_X8_48 S.2.2.2.2 ⟨Nat.le_of_ble_eq_true rfl, Nat.le_of_ble_eq_true rfl⟩) hK (hP.sub [0, 1] rfl) rfl rfl rfl rfl hl.1 rfl (Nat.le_of_ble_eq_true rfl) ⟨Nat.zero_le _, Nat.zero_le _⟩ rfl rfl dX8_segmentAt_2 ?_
  refine lv_istore_n (lv' := [(2, .int (f_X8_valueOf r1 0)), (0, .ref h0), (1, .int p0)]) hx hb dX8_segmentAt_5 rfl hl (by decide) rfl (fun ls hl => ?_)
  refine lv_iload_n hx hb dX8_segmentAt_6 rfl (lv_at hl 0 rfl) ?_
  refine lv_if_le (tgt := 16) hx hb dX8_segmentAt_7 (by decide) (fun c1 => ?_) (fun c1 => ?_)
  · have h := iteP c1 h
    refine lv_iconst (v := 0) hx hb dX8_segmentAt_16 li_0 ?_
    subst h
    exact rRi S hr hlk dX8_segmentAt_17
  · have h := iteN c1 h
    refine lv_iload_n hx hb dX8_segmentAt_10 rfl (lv_at hl 2 rfl) ?_
    refine lv_iload_n hx hb dX8_segmentAt_11 rfl (lv_at hl 0 rfl) ?_
    refine lv_idiv hx hb dX8_segmentAt_12 (pos_ne32 (nle32 c1)) ?_
    refine lv_goto (tgt := 17) hx hb dX8_segmentAt_13 (by decide) ?_
    subst h
    exact rRi S hr hlk dX8_segmentAt_17
abbrev rm_X8_bitsOf : Room := { frames := 1, cells := 0, slots := 0, locals := 24 }
theorem dX8_bitsOf_0 : decode cX8_bitsOf 0 = .ok (.bipush 85, 2) := by decide +kernel
theorem dX8_bitsOf_2 : decode cX8_bitsOf 2 = .ok (.bipush 7, 2) := by decide +kernel
theorem dX8_bitsOf_4 : decode cX8_bitsOf 4 = .ok (.iload_n 3, 1) := by decide +kernel
theorem dX8_bitsOf_5 : decode cX8_bitsOf 5 = .ok (.imul, 1) := by decide +kernel
theorem dX8_bitsOf_6 : decode cX8_bitsOf 6 = .ok (.bipush 13, 2) := by decide +kernel
theorem dX8_bitsOf_8 : decode cX8_bitsOf 8 = .ok (.iload_n 2, 1) := by decide +kernel
theorem dX8_bitsOf_9 : decode cX8_bitsOf 9 = .ok (.imul, 1) := by decide +kernel
theorem dX8_bitsOf_10 : decode cX8_bitsOf 10 = .ok (.iadd, 1) := by decide +kernel
theorem dX8_bitsOf_11 : decode cX8_bitsOf 11 = .ok (.iconst 3, 1) := by decide +kernel
theorem dX8_bitsOf_12 : decode cX8_bitsOf 12 = .ok (.iload_n 1, 1) := by decide +kernel
theorem dX8_bitsOf_13 : decode cX8_bitsOf 13 = .ok (.imul, 1) := by decide +kernel
theorem dX8_bitsOf_14 : decode cX8_bitsOf 14 = .ok (.iadd, 1) := by decide +kernel
theorem dX8_bitsOf_15 : decode cX8_bitsOf 15 = .ok (.bipush 31, 2) := by decide +kernel
theorem dX8_bitsOf_17 : decode cX8_bitsOf 17 = .ok (.irem, 1) := by decide +kernel
theorem dX8_bitsOf_18 : decode cX8_bitsOf 18 = .ok (.iadd, 1) := by decide +kernel
theorem dX8_bitsOf_19 : decode cX8_bitsOf 19 = .ok (.i2l, 1) := by decide +kernel
theorem dX8_bitsOf_20 : decode cX8_bitsOf 20 = .ok (.lstore 4, 2) := by decide +kernel
theorem dX8_bitsOf_22 : decode cX8_bitsOf 22 = .ok (.aload_n 0, 1) := by decide +kernel
theorem dX8_bitsOf_23 : decode cX8_bitsOf 23 = .ok (.iload_n 1, 1) := by decide +kernel
theorem dX8_bitsOf_24 : decode cX8_bitsOf 24 = .ok (.invokevirtual 62, 3) := by decide +kernel
theorem dX8_bitsOf_27 : decode cX8_bitsOf 27 = .ok (.iload_n 2, 1) := by decide +kernel
theorem dX8_bitsOf_28 : decode cX8_bitsOf 28 = .ok (.invokevirtual 66, 3) := by decide +kernel
theorem dX8_bitsOf_31 : decode cX8_bitsOf 31 = .ok (.i2l, 1) := by decide +kernel
theorem dX8_bitsOf_32 : decode cX8_bitsOf 32 = .ok (.lstore 6, 2) := by decide +kernel
theorem dX8_bitsOf_34 : decode cX8_bitsOf 34 = .ok (.lconst 1, 1) := by decide +kernel
theorem dX8_bitsOf_35 : decode cX8_bitsOf 35 = .ok (.lload 6, 2) := by decide +kernel
theorem dX8_bitsOf_37 : decode cX8_bitsOf 37 = .ok (.aload_n 0, 1) := by decide +kernel
theorem dX8_bitsOf_38 : decode cX8_bitsOf 38 = .ok (.iconst 0, 1) := by decide +kernel
theorem dX8_bitsOf_39 : decode cX8_bitsOf 39 = .ok (.invokevirtual 48, 3) := by decide +kernel
theorem dX8_bitsOf_42 : decode cX8_bitsOf 42 = .ok (.i2l, 1) := by decide +kernel
theorem dX8_bitsOf_43 : decode cX8_bitsOf 43 = .ok (.lmul, 1) := by decide +kernel
theorem dX8_bitsOf_44 : decode cX8_bitsOf 44 = .ok (.lload 4, 2) := by decide +kernel
theorem dX8_bitsOf_46 : decode cX8_bitsOf 46 = .ok (.lmul, 1) := by decide +kernel
theorem dX8_bitsOf_47 : decode cX8_bitsOf 47 = .ok (.ldc2_w 69, 3) := by decide +kernel
theorem dX8_bitsOf_50 : decode cX8_bitsOf 50 = .ok (.ldiv, 1) := by decide +kernel
theorem dX8_bitsOf_51 : decode cX8_bitsOf 51 = .ok (.invokestatic 71, 3) := by decide +kernel
theorem dX8_bitsOf_54 : decode cX8_bitsOf 54 = .ok (.lreturn, 1) := by decide +kernel
theorem cw_X8_62 {R : Room} {s : State} {args : Array Value} (hts : ∀ w ∈ TB, w.before args s = true) (hR : rm_X8_ladderOf.frames + 1 ≤ R.frames ∧ 8 + (2 + 11) + rm_X8_ladderOf.locals ≤ R.locals) : CallW R s args RX8 RX8 62 yX8_ladderOf cX8_ladderOf 2 (some (.object "StreamPlayer$Ladder")) (Cond.code yX8_ladderOf cX8_ladderOf 2 (some (.object "StreamPlayer$Ladder")) :: TB) rm_X8_ladderOf 0 0 1 := cwV 1 hts (gV tb564 tb416 tb417 tb22 tb418) rfl rfl rfl ⟨rfl, by decide, by decide, by decide +kernel⟩ hR
theorem cw_X8_66 {R : Room} {s : State} {args : Array Value} (hts : ∀ w ∈ TB, w.before args s = true) (hR : rm_X2_rateOf.frames + 1 ≤ R.frames ∧ 8 + (2 + 11) + rm_X2_rateOf.locals ≤ R.locals) : CallW R s args RX8 RX2 66 yX2_rateOf cX2_rateOf 2 (some .int) (Cond.code yX2_rateOf cX2_rateOf 2 (some .int) :: TB) rm_X2_rateOf 0 0 1 := cwV 1 hts (gV tb565 tb449 tb450 tb23 tb451) rfl rfl rfl ⟨rfl, by decide, by decide, by decide +kernel⟩ hR
def f_X8_bitsOf_0 (r1 r3 : Nat → Int32) (p0 p1 p2 : Int32) : Int64 :=
  bnd ((85 + (rm32 (((7 * p2) + (13 * p1)) + (3 * p0)) 31)).toInt64) fun (z1 : Int64) =>
  bnd ((f_X2_rateOf r3 p1).toInt64) fun (z2 : Int64) =>
  mx64 1 (((z2 * ((f_X8_valueOf r1 0).toInt64)) * z1) / 100)
set_option maxHeartbeats 4000000 in
set_option maxRecDepth 100000 in
theorem c_X8_bitsOf_0 (l : Launch) (D : va_G) (cI cJ cC : ClassId) (h0 h1 h2 h3 kthis_audio kthis_plan : Nat) (r1 : Nat → Int32) (v2_most v2_rungs : Int32) (r3 : Nat → Int32) (p0 p1 p2 : Int32) (hv : p0 = 0) (t0 : Int64) (h : f_X8_bitsOf_0 r1 r3 p0 p1 p2 = t0) : Met l yX8_bitsOf (Cond.code yX8_bitsOf cX8_bitsOf 8 (some .long) :: TB) rm_X8_bitsOf (PreR D cI cJ cC [(h0, .inr (8, [.ref h1, .ref h2, .ref kthis_audio, .ref kthis_plan])), (h1, .inl (cI, 15, .inl r1)), (h2, .inr (2, [.ref h3, .int v2_most, .int v2_rungs])), (h3, .inl (cI, 6, .inl r3))] [.ref h0, .int p0, .int p1, .int p2]) (QR (some (.long t0))) 0 0 free0 := by
  refine metR (own := RX8) (by decide) rfl (Nat.le_of_ble_eq_true rfl) ?_
  intro p e s m below meth c S hr hlk hP hK ls hl
  have hx := S.1
  have hb := S.2.1
  have hl : lv_has ls 8 [(0, .ref h0), (1, .int p0), (2, .int p1), (3, .int p2)] := hl
  refine lv_bipush (v := 85) hx hb dX8_bitsOf_0 lb_85 ?_
  refine lv_bipush (v := 7) hx hb dX8_bitsOf_2 lb_7 ?_
  refine lv_iload_n hx hb dX8_bitsOf_4 rfl (lv_at hl 3 rfl) ?_
  refine lv_imul hx hb dX8_bitsOf_5 ?_
  refine lv_bipush (v := 13) hx hb dX8_bitsOf_6 lb_13 ?_
  refine lv_iload_n hx hb dX8_bitsOf_8 rfl (lv_at hl 2 rfl) ?_
  refine lv_imul hx hb dX8_bitsOf_9 ?_
  refine lv_iadd hx hb dX8_bitsOf_10 ?_
  refine lv_iconst (v := 3) hx hb dX8_bitsOf_11 li_3 ?_
  refine lv_iload_n hx hb dX8_bitsOf_12 rfl (lv_at hl 1 rfl) ?_
  refine lv_imul hx hb dX8_bitsOf_13 ?_
  refine lv_iadd hx hb dX8_bitsOf_14 ?_
  refine lv_bipush (v := 31) hx hb dX8_bitsOf_15 lb_31 ?_
  refine remw_i hx hb dX8_bitsOf_17 nzi_31 ?_
  refine lv_iadd hx hb dX8_bitsOf_18 ?_
  refine lv_i2l hx hb dX8_bitsOf_19 rfl ?_
  refine lv_topl (fun z1 e_z1 => ?_)
  have h := bnd_eq e_z1.symm h
  refine lv_lstore (lv' := [(4, .long z1), (0, .ref h0), (1, .int p0), (2, .int p1), (3, .int p2)]) hx hb dX8_bitsOf_20 hl (by decide) rfl (fun ls hl => ?_)
  refine lv_aload_n hx hb dX8_bitsOf_22 rfl (lv_at hl 1 rfl) ?_
  refine lv_iload_n hx hb dX8_bitsOf_23 rfl (lv_at hl 2 rfl) ?_
  refine rdV (pc1 := 27) (rest := []) (st1 := [.ref h2]) S (c_X8_ladderOf_0 l D cI cJ cC h0 h1 h2 kthis_audio kthis_plan p0 hv) (cw_X8_62 S.2.2.2.2 ⟨Nat.le_of_ble_eq_true rfl, Nat.le_of_ble_eq_true rfl⟩) hK (hP.sub [0] rfl) rfl rfl rfl rfl hl.1 rfl (Nat.le_of_ble_eq_true rfl) ⟨Nat.zero_le _, Nat.zero_le _⟩ rfl rfl dX8_bitsOf_24 ?_
  refine lv_iload_n hx hb dX8_bitsOf_27 rfl (lv_at hl 3 rfl) ?_
  refine rdV (pc1 := 31) (rest := []) (st1 := [.int (f_X2_rateOf r3 p1)]) S (c_X2_rateOf l D cI cJ cC h2 h3 v2_most v2_rungs r3 p1 _ rfl) (cw_X8_66 S.2.2.2.2 ⟨Nat.le_of_ble_eq_true rfl, Nat.le_of_ble_eq_true rfl⟩) hK (hP.sub [2, 3] rfl) rfl rfl rfl rfl hl.1 rfl (Nat.le_of_ble_eq_true rfl) ⟨Nat.zero_le _, Nat.zero_le _⟩ rfl rfl dX8_bitsOf_28 ?_
  refine lv_i2l hx hb dX8_bitsOf_31 rfl ?_
  refine lv_topl (fun z2 e_z2 => ?_)
  have h := bnd_eq e_z2.symm h
  refine lv_lstore (lv' := [(6, .long z2), (4, .long z1), (0, .ref h0), (1, .int p0), (2, .int p1), (3, .int p2)]) hx hb dX8_bitsOf_32 hl (by decide) rfl (fun ls hl => ?_)
  refine lv_lconst (v := 1) hx hb dX8_bitsOf_34 rfl ?_
  refine lv_lload hx hb dX8_bitsOf_35 (lv_at hl 0 rfl) ?_
  refine lv_aload_n hx hb dX8_bitsOf_37 rfl (lv_at hl 2 rfl) ?_
  refine lv_iconst (v := 0) hx hb dX8_bitsOf_38 li_0 ?_
  refine rdV (pc1 := 42) (rest := [.long z2, .long 1]) (st1 := [.int (f_X8_valueOf r1 0), .long z2, .long 1]) S (c_X8_valueOf l D cI cJ cC h0 h1 h2 kthis_audio kthis_plan r1 0 _ rfl) (cw_X8_48 S.2.2.2.2 ⟨Nat.le_of_ble_eq_true rfl, Nat.le_of_ble_eq_true rfl⟩) hK (hP.sub [0, 1] rfl) rfl rfl rfl rfl hl.1 rfl (Nat.le_of_ble_eq_true rfl) ⟨Nat.zero_le _, Nat.zero_le _⟩ rfl rfl dX8_bitsOf_39 ?_
  refine lv_i2l hx hb dX8_bitsOf_42 rfl ?_
  refine lv_lmul hx hb dX8_bitsOf_43 ?_
  refine lv_lload hx hb dX8_bitsOf_44 (lv_at hl 1 rfl) ?_
  refine lv_lmul hx hb dX8_bitsOf_46 ?_
  refine lv_ldc2 (v := 100) hx hb S.2.2.2.1 (S.2.2.2.2 _ tb566) dX8_bitsOf_47 ?_
  refine lv_ldiv hx hb dX8_bitsOf_50 nzl_100 ?_
  refine mx64w S hl.1 tb567 (Nat.le_of_ble_eq_true rfl) (Nat.le_of_ble_eq_true rfl) (Nat.zero_le _) (Nat.zero_le _) dX8_bitsOf_51 ?_
  subst h
  exact rRl S hr hlk dX8_bitsOf_54
def f_X8_bitsOf_1 (r2 r3 : Nat → Int32) (p0 p1 p2 : Int32) : Int64 :=
  bnd ((85 + (rm32 (((7 * p2) + (13 * p1)) + (3 * p0)) 31)).toInt64) fun (z1 : Int64) =>
  bnd ((f_X2_rateOf r2 p1).toInt64) fun (z2 : Int64) =>
  mx64 1 (((z2 * ((f_X8_valueOf r3 0).toInt64)) * z1) / 100)
set_option maxHeartbeats 4000000 in
set_option maxRecDepth 100000 in
theorem c_X8_bitsOf_1 (l : Launch) (D : va_G) (cI cJ cC : ClassId) (h0 h1 h2 h3 kthis_video kthis_plan : Nat) (v1_most v1_rungs : Int32) (r2 r3 : Nat → Int32) (p0 p1 p2 : Int32) (hv : ¬ p0 = 0) (t0 : Int64) (h : f_X8_bitsOf_1 r2 r3 p0 p1 p2 = t0) : Met l yX8_bitsOf (Cond.code yX8_bitsOf cX8_bitsOf 8 (some .long) :: TB) rm_X8_bitsOf (PreR D cI cJ cC [(h0, .inr (8, [.ref h3, .ref kthis_video, .ref h1, .ref kthis_plan])), (h1, .inr (2, [.ref h2, .int v1_most, .int v1_rungs])), (h2, .inl (cI, 6, .inl r2)), (h3, .inl (cI, 15, .inl r3))] [.ref h0, .int p0, .int p1, .int p2]) (QR (some (.long t0))) 0 0 free0 := by
  refine metR (own := RX8) (by decide) rfl (Nat.le_of_ble_eq_true rfl) ?_
  intro p e s m below meth c S hr hlk hP hK ls hl
  have hx := S.1
  have hb := S.2.1
  have hl : lv_has ls 8 [(0, .ref h0), (1, .int p0), (2, .int p1), (3, .int p2)] := hl
  refine lv_bipush (v := 85) hx hb dX8_bitsOf_0 lb_85 ?_
  refine lv_bipush (v := 7) hx hb dX8_bitsOf_2 lb_7 ?_
  refine lv_iload_n hx hb dX8_bitsOf_4 rfl (lv_at hl 3 rfl) ?_
  refine lv_imul hx hb dX8_bitsOf_5 ?_
  refine lv_bipush (v := 13) hx hb dX8_bitsOf_6 lb_13 ?_
  refine lv_iload_n hx hb dX8_bitsOf_8 rfl (lv_at hl 2 rfl) ?_
  refine lv_imul hx hb dX8_bitsOf_9 ?_
  refine lv_iadd hx hb dX8_bitsOf_10 ?_
  refine lv_iconst (v := 3) hx hb dX8_bitsOf_11 li_3 ?_
  refine lv_iload_n hx hb dX8_bitsOf_12 rfl (lv_at hl 1 rfl) ?_
  refine lv_imul hx hb dX8_bitsOf_13 ?_
  refine lv_iadd hx hb dX8_bitsOf_14 ?_
  refine lv_bipush (v := 31) hx hb dX8_bitsOf_15 lb_31 ?_
  refine remw_i hx hb dX8_bitsOf_17 nzi_31 ?_
  refine lv_iadd hx hb dX8_bitsOf_18 ?_
  refine lv_i2l hx hb dX8_bitsOf_19 rfl ?_
  refine lv_topl (fun z1 e_z1 => ?_)
  have h := bnd_eq e_z1.symm h
  refine lv_lstore (lv' := [(4, .long z1), (0, .ref h0), (1, .int p0), (2, .int p1), (3, .int p2)]) hx hb dX8_bitsOf_20 hl (by decide) rfl (fun ls hl => ?_)
  refine lv_aload_n hx hb dX8_bitsOf_22 rfl (lv_at hl 1 rfl) ?_
  refine lv_iload_n hx hb dX8_bitsOf_23 rfl (lv_at hl 2 rfl) ?_
  refine rdV (pc1 := 27) (rest := []) (st1 := [.ref h1]) S (c_X8_ladderOf_1 l D cI cJ cC h0 h3 kthis_video h1 kthis_plan p0 hv) (cw_X8_62 S.2.2.2.2 ⟨Nat.le_of_ble_eq_true rfl, Nat.le_of_ble_eq_true rfl⟩) hK (hP.sub [0] rfl) rfl rfl rfl rfl hl.1 rfl (Nat.le_of_ble_eq_true rfl) ⟨Nat.zero_le _, Nat.zero_le _⟩ rfl rfl dX8_bitsOf_24 ?_
  refine lv_iload_n hx hb dX8_bitsOf_27 rfl (lv_at hl 3 rfl) ?_
  refine rdV (pc1 := 31) (rest := []) (st1 := [.int (f_X2_rateOf r2 p1)]) S (c_X2_rateOf l D cI cJ cC h1 h2 v1_most v1_rungs r2 p1 _ rfl) (cw_X8_66 S.2.2.2.2 ⟨Nat.le_of_ble_eq_true rfl, Nat.le_of_ble_eq_true rfl⟩) hK (hP.sub [1, 2] rfl) rfl rfl rfl rfl hl.1 rfl (Nat.le_of_ble_eq_true rfl) ⟨Nat.zero_le _, Nat.zero_le _⟩ rfl rfl dX8_bitsOf_28 ?_
  refine lv_i2l hx hb dX8_bitsOf_31 rfl ?_
  refine lv_topl (fun z2 e_z2 => ?_)
  have h := bnd_eq e_z2.symm h
  refine lv_lstore (lv' := [(6, .long z2), (4, .long z1), (0, .ref h0), (1, .int p0), (2, .int p1), (3, .int p2)]) hx hb dX8_bitsOf_32 hl (by decide) rfl (fun ls hl => ?_)
  refine lv_lconst (v := 1) hx hb dX8_bitsOf_34 rfl ?_
  refine lv_lload hx hb dX8_bitsOf_35 (lv_at hl 0 rfl) ?_
  refine lv_aload_n hx hb dX8_bitsOf_37 rfl (lv_at hl 2 rfl) ?_
  refine lv_iconst (v := 0) hx hb dX8_bitsOf_38 li_0 ?_
  refine rdV (pc1 := 42) (rest := [.long z2, .long 1]) (st1 := [.int (f_X8_valueOf r3 0), .long z2, .long 1]) S (c_X8_valueOf l D cI cJ cC h0 h3 kthis_video h1 kthis_plan r3 0 _ rfl) (cw_X8_48 S.2.2.2.2 ⟨Nat.le_of_ble_eq_true rfl, Nat.le_of_ble_eq_true rfl⟩) hK (hP.sub [0, 3] rfl) rfl rfl rfl rfl hl.1 rfl (Nat.le_of_ble_eq_true rfl) ⟨Nat.zero_le _, Nat.zero_le _⟩ rfl rfl dX8_bitsOf_39 ?_
  refine lv_i2l hx hb dX8_bitsOf_42 rfl ?_
  refine lv_lmul hx hb dX8_bitsOf_43 ?_
  refine lv_lload hx hb dX8_bitsOf_44 (lv_at hl 1 rfl) ?_
  refine lv_lmul hx hb dX8_bitsOf_46 ?_
  refine lv_ldc2 (v := 100) hx hb S.2.2.2.1 (S.2.2.2.2 _ tb566) dX8_bitsOf_47 ?_
  refine lv_ldiv hx hb dX8_bitsOf_50 nzl_100 ?_
  refine mx64w S hl.1 tb567 (Nat.le_of_ble_eq_true rfl) (Nat.le_of_ble_eq_true rfl) (Nat.zero_le _) (Nat.zero_le _) dX8_bitsOf_51 ?_
  subst h
  exact rRl S hr hlk dX8_bitsOf_54
