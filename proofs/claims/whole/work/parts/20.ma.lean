abbrev rm_X10_thrown : Room := { frames := 0, cells := 0, slots := 0, locals := 0 }
theorem dX10_thrown_0 : decode cX10_thrown 0 = .ok (.aload_n 0, 1) := by decide +kernel
theorem dX10_thrown_1 : decode cX10_thrown 1 = .ok (.getfield 33, 3) := by decide +kernel
theorem dX10_thrown_4 : decode cX10_thrown 4 = .ok (.ireturn, 1) := by decide +kernel
theorem gf_X10_33 {p : Program} {l : Launch} {e : Env} {R : Room} {s : State} {m : MethodId} {args : Array Value} {below : List Frame} {meth : Method} {c : Code} {H : Heap} {locs : List Loc} {cells slots : Nat} {Q : State → Prop} {cc : ByteArray} {pc nL : Nat} {ls : Array Slot} {rest : List Value} {D : va_G} {ws : va_W} {tys : List (ClassId × FieldType)} (S : CallFix p m c cc nL s args TB RX10) (hK : va_K D vwCl tys s) (hP : va_P D vwCl ws H) (q0 : Nat) {a : Nat} {fs : List Value} (he : ws[q0]? = some (a, .inr (10, fs))) {v : Value} (hv : fs[9]? = some v) (hdg : decode cc pc = .ok (.getfield 33, 3))
    (kk : W p l e R s m args below meth c H locs cells slots Q (F0 m (pc + 3) ls (v :: rest))) : W p l e R s m args below meth c H locs cells slots Q (F0 m pc ls (.ref a :: rest)) :=
  va_get (D := D) (ci := 10) (C := RX10) (T := TX10) (N := 10) S.1 S.2.1 S.2.2.2.2 iwX10 S.2.2.2.1 hK hP q0 he rfl 9 (by decide) (S.2.2.2.2 _ tb970) (fun _ h9 => h9) hv hdg kk
def f_X10_thrown (v0_thrown : Int32) : Int32 :=
  v0_thrown
set_option maxHeartbeats 4000000 in
set_option maxRecDepth 100000 in
theorem c_X10_thrown (l : Launch) (D : va_G) (cI cJ cC : ClassId) (h0 kthis_p kthis_rates kthis_ladder kthis_lengths kthis_flows kthis_now kthis_trial : Nat) (v0_phases v0_has v0_thrown : Int32)  (t0 : Int32) (h : f_X10_thrown v0_thrown = t0) : Met l yX10_thrown (Cond.code yX10_thrown cX10_thrown 1 (some .int) :: TB) rm_X10_thrown (PreR D cI cJ cC [(h0, .inr (10, [.ref kthis_p, .ref kthis_rates, .ref kthis_ladder, .ref kthis_lengths, .ref kthis_flows, .int v0_phases, .ref kthis_now, .ref kthis_trial, .int v0_has, .int v0_thrown]))] [.ref h0]) (QR (some (.int t0))) 0 0 free0 := by
  refine metR (own := RX10) (by decide) rfl (Nat.le_of_ble_eq_true rfl) ?_
  intro p e s m below meth c S hr hlk hP hK ls hl
  have hx := S.1
  have hb := S.2.1
  have hl : lv_has ls 1 [(0, .ref h0)] := hl
  refine lv_aload_n hx hb dX10_thrown_0 rfl (lv_at hl 0 rfl) ?_
  refine gf_X10_33 (v := .int v0_thrown) S hK hP 0 rfl rfl dX10_thrown_1 ?_
  subst h
  exact rRi S hr hlk dX10_thrown_4
abbrev rm_X10_in : Room := { frames := 0, cells := 0, slots := 0, locals := 0 }
theorem dX10_in_0 : decode cX10_in 0 = .ok (.lload_n 0, 1) := by decide +kernel
theorem dX10_in_1 : decode cX10_in 1 = .ok (.lload_n 2, 1) := by decide +kernel
theorem dX10_in_2 : decode cX10_in 2 = .ok (.lcmp, 1) := by decide +kernel
theorem dX10_in_3 : decode cX10_in 3 = .ok (.ifCond .lt 14, 3) := by decide +kernel
theorem dX10_in_6 : decode cX10_in 6 = .ok (.lload_n 0, 1) := by decide +kernel
theorem dX10_in_7 : decode cX10_in 7 = .ok (.lload 4, 2) := by decide +kernel
theorem dX10_in_9 : decode cX10_in 9 = .ok (.lcmp, 1) := by decide +kernel
theorem dX10_in_10 : decode cX10_in 10 = .ok (.ifCond .gt 7, 3) := by decide +kernel
theorem dX10_in_13 : decode cX10_in 13 = .ok (.iconst 1, 1) := by decide +kernel
theorem dX10_in_14 : decode cX10_in 14 = .ok (.goto 4, 3) := by decide +kernel
theorem dX10_in_17 : decode cX10_in 17 = .ok (.iconst 0, 1) := by decide +kernel
theorem dX10_in_18 : decode cX10_in 18 = .ok (.ireturn, 1) := by decide +kernel
def f_X10_in (p0 p1 p2 : Int64) : Int32 :=
  if p0 < p1 then
    0
  else
    if p2 < p0 then
      0
    else
      1
set_option maxHeartbeats 4000000 in
set_option maxRecDepth 100000 in
theorem c_X10_in (l : Launch) (D : va_G) (cI cJ cC : ClassId)  (p0 p1 p2 : Int64) (t0 : Int32) (h : f_X10_in p0 p1 p2 = t0) : Met l yX10_in (Cond.code yX10_in cX10_in 6 (some .boolean) :: TB) rm_X10_in (PreR D cI cJ cC [] [.long p0, .long p1, .long p2]) (QR (some (.int t0))) 0 0 free0 := by
  refine metR (own := RX10) (by decide) rfl (Nat.le_of_ble_eq_true rfl) ?_
  intro p e s m below meth c S hr hlk hP hK ls hl
  have hx := S.1
  have hb := S.2.1
  have hl : lv_has ls 6 [(0, .long p0), (2, .long p1), (4, .long p2)] := hl
  refine lv_lload_n hx hb dX10_in_0 rfl (lv_at hl 0 rfl) ?_
  refine lv_lload_n hx hb dX10_in_1 rfl (lv_at hl 1 rfl) ?_
  refine lc_lt (tgt := 17) hx hb dX10_in_2 dX10_in_3 (by decide) (fun c1 => ?_) (fun c1 => ?_)
  · have h := iteP c1 h
    refine lv_iconst (v := 0) hx hb dX10_in_17 li_0 ?_
    subst h
    exact rRz S hr hlk (by decide) dX10_in_18
  · have h := iteN c1 h
    refine lv_lload_n hx hb dX10_in_6 rfl (lv_at hl 0 rfl) ?_
    refine lv_lload hx hb dX10_in_7 (lv_at hl 2 rfl) ?_
    refine lc_gt (tgt := 17) hx hb dX10_in_9 dX10_in_10 (by decide) (fun c2 => ?_) (fun c2 => ?_)
    · have h := iteP c2 h
      refine lv_iconst (v := 0) hx hb dX10_in_17 li_0 ?_
      subst h
      exact rRz S hr hlk (by decide) dX10_in_18
    · have h := iteN c2 h
      refine lv_iconst (v := 1) hx hb dX10_in_13 li_1 ?_
      refine lv_goto (tgt := 18) hx hb dX10_in_14 (by decide) ?_
      subst h
      exact rRz S hr hlk (by decide) dX10_in_18
abbrev rm_X10_fails : Room := { frames := 0, cells := 0, slots := 0, locals := 0 }
theorem dX10_fails_0 : decode cX10_fails 0 = .ok (.aload_n 0, 1) := by decide +kernel
theorem dX10_fails_1 : decode cX10_fails 1 = .ok (.iload_n 1, 1) := by decide +kernel
theorem dX10_fails_2 : decode cX10_fails 2 = .ok (.putfield 33, 3) := by decide +kernel
theorem dX10_fails_5 : decode cX10_fails 5 = .ok (.iconst 0, 1) := by decide +kernel
theorem dX10_fails_6 : decode cX10_fails 6 = .ok (.ireturn, 1) := by decide +kernel
theorem pf_X10_33 {p : Program} {l : Launch} {e : Env} {R : Room} {s : State} {m : MethodId} {args : Array Value} {below : List Frame} {meth : Method} {c : Code} {H H0 : Heap} {locs : List Loc} {cells slots : Nat} {Q : State → Prop} {cc : ByteArray} {pc nL : Nat} {ls : Array Slot} {rest : List Value} {D : va_G} {ws : va_W} {tys : List (ClassId × FieldType)} {A : Nat → Prop} {x9 : Int32} {v : Value} (S : CallFix p m c cc nL s args TB RX10) (hK : va_K D vwCl tys s) (hP : va_P D vwCl ws H) (hD : va_D A ws) (hS : va_S A H0 H locs) (q0 : Nat) {a : Nat} {fs : List Value} (he : ws[q0]? = some (a, .inr (10, fs))) (hle : 9 < fs.length) (hv9 : v = .int x9) (hdg : decode cc pc = .ok (.putfield 33, 3))
    (kk : ∀ (H1 : Heap) (locs1 : List Loc), va_P D vwCl (ws.set q0 (a, .inr (10, fs.set 9 v))) H1 → va_D A (ws.set q0 (a, .inr (10, fs.set 9 v))) → va_S A H0 H1 locs1 → W p l e R s m args below meth c H1 locs1 cells slots Q (F0 m (pc + 3) ls rest)) : W p l e R s m args below meth c H locs cells slots Q (F0 m pc ls (v :: .ref a :: rest)) := by
  subst hv9
  exact va_put (D := D) (ci := 10) (ty := .int) (C := RX10) (T := TX10) (N := 10) S.1 S.2.1 S.2.2.2.2 iwX10 tyX10 tyX10_ok nmX10 S.2.2.2.1 hK hP hD hS q0 he rfl 9 (by decide) (S.2.2.2.2 _ tb970) (fun _ h9 => h9) rfl (by decide +kernel) rfl rfl hle hdg kk
def f_X10_fails (p0 : Int32) : Int32 × Int32 :=
  (0, p0)
set_option maxHeartbeats 4000000 in
set_option maxRecDepth 100000 in
theorem c_X10_fails (l : Launch) (D : va_G) (cI cJ cC : ClassId) (h0 kthis_p kthis_rates kthis_ladder kthis_lengths kthis_flows kthis_now kthis_trial : Nat) (v0_phases v0_has v0_thrown : Int32) (sz : Nat) (p0 : Int32) (T : Int32 × Int32) (h : f_X10_fails p0 = T) : Met l yX10_fails (Cond.code yX10_fails cX10_fails 2 (some .int) :: TB) rm_X10_fails (PreW D cI cJ cC [(h0, .inr (10, [.ref kthis_p, .ref kthis_rates, .ref kthis_ladder, .ref kthis_lengths, .ref kthis_flows, .int v0_phases, .ref kthis_now, .ref kthis_trial, .int v0_has, .int v0_thrown]))] sz [.ref h0, .int p0]) (QW (some (.int T.1)) D [(h0, .inr (10, [.ref kthis_p, .ref kthis_rates, .ref kthis_ladder, .ref kthis_lengths, .ref kthis_flows, .int v0_phases, .ref kthis_now, .ref kthis_trial, .int v0_has, .int T.2]))] (va_A [(h0, .inr (10, [.ref kthis_p, .ref kthis_rates, .ref kthis_ladder, .ref kthis_lengths, .ref kthis_flows, .int v0_phases, .ref kthis_now, .ref kthis_trial, .int v0_has, .int v0_thrown]))] sz)) 0 0 (va_A [(h0, .inr (10, [.ref kthis_p, .ref kthis_rates, .ref kthis_ladder, .ref kthis_lengths, .ref kthis_flows, .int v0_phases, .ref kthis_now, .ref kthis_trial, .int v0_has, .int v0_thrown]))] sz) := by
  refine metW (own := RX10) (by decide) rfl (Nat.le_of_ble_eq_true rfl) ?_
  intro p e s m below meth c S hr hlk hP hK A hAe hD hA hS ls hl
  clear hAe
  have hx := S.1
  have hb := S.2.1
  have hl : lv_has ls 2 [(0, .ref h0), (1, .int p0)] := hl
  refine lv_aload_n hx hb dX10_fails_0 rfl (lv_at hl 0 rfl) ?_
  refine lv_iload_n hx hb dX10_fails_1 rfl (lv_at hl 1 rfl) ?_
  refine pf_X10_33 (v := .int p0) S hK hP hD hS 0 rfl (Nat.le_of_ble_eq_true rfl) rfl dX10_fails_2 (fun H locs hP hD hS => ?_)
  have hP : va_P D vwCl [(h0, .inr (10, [.ref kthis_p, .ref kthis_rates, .ref kthis_ladder, .ref kthis_lengths, .ref kthis_flows, .int v0_phases, .ref kthis_now, .ref kthis_trial, .int v0_has, .int p0]))] H := hP
  have hD : va_D A [(h0, .inr (10, [.ref kthis_p, .ref kthis_rates, .ref kthis_ladder, .ref kthis_lengths, .ref kthis_flows, .int v0_phases, .ref kthis_now, .ref kthis_trial, .int v0_has, .int p0]))] := hD
  refine lv_iconst (v := 0) hx hb dX10_fails_5 li_0 ?_
  subst h
  exact wRi S hr hlk (hP.sub [0] rfl) (hD.sub [0] (by decide) rfl) hS dX10_fails_6
abbrev rm_X10_leastOf : Room := { frames := 0, cells := 0, slots := 0, locals := 0 }
theorem dX10_leastOf_0 : decode cX10_leastOf 0 = .ok (.iload_n 0, 1) := by decide +kernel
theorem dX10_leastOf_1 : decode cX10_leastOf 1 = .ok (.ifCond .ne 8, 3) := by decide +kernel
theorem dX10_leastOf_4 : decode cX10_leastOf 4 = .ok (.bipush 100, 2) := by decide +kernel
theorem dX10_leastOf_6 : decode cX10_leastOf 6 = .ok (.goto 42, 3) := by decide +kernel
theorem dX10_leastOf_9 : decode cX10_leastOf 9 = .ok (.iload_n 0, 1) := by decide +kernel
theorem dX10_leastOf_10 : decode cX10_leastOf 10 = .ok (.iconst 1, 1) := by decide +kernel
theorem dX10_leastOf_11 : decode cX10_leastOf 11 = .ok (.if_icmp .eq 9, 3) := by decide +kernel
theorem dX10_leastOf_14 : decode cX10_leastOf 14 = .ok (.iload_n 0, 1) := by decide +kernel
theorem dX10_leastOf_15 : decode cX10_leastOf 15 = .ok (.bipush 8, 2) := by decide +kernel
theorem dX10_leastOf_17 : decode cX10_leastOf 17 = .ok (.if_icmp .ne 7, 3) := by decide +kernel
theorem dX10_leastOf_20 : decode cX10_leastOf 20 = .ok (.iconst 1, 1) := by decide +kernel
theorem dX10_leastOf_21 : decode cX10_leastOf 21 = .ok (.goto 27, 3) := by decide +kernel
theorem dX10_leastOf_24 : decode cX10_leastOf 24 = .ok (.iload_n 0, 1) := by decide +kernel
theorem dX10_leastOf_25 : decode cX10_leastOf 25 = .ok (.bipush 7, 2) := by decide +kernel
theorem dX10_leastOf_27 : decode cX10_leastOf 27 = .ok (.if_icmp .ne 9, 3) := by decide +kernel
theorem dX10_leastOf_30 : decode cX10_leastOf 30 = .ok (.sipush 1000, 3) := by decide +kernel
theorem dX10_leastOf_33 : decode cX10_leastOf 33 = .ok (.goto 15, 3) := by decide +kernel
theorem dX10_leastOf_36 : decode cX10_leastOf 36 = .ok (.iload_n 0, 1) := by decide +kernel
theorem dX10_leastOf_37 : decode cX10_leastOf 37 = .ok (.bipush 9, 2) := by decide +kernel
theorem dX10_leastOf_39 : decode cX10_leastOf 39 = .ok (.if_icmp .ne 8, 3) := by decide +kernel
theorem dX10_leastOf_42 : decode cX10_leastOf 42 = .ok (.bipush 10, 2) := by decide +kernel
theorem dX10_leastOf_44 : decode cX10_leastOf 44 = .ok (.goto 4, 3) := by decide +kernel
theorem dX10_leastOf_47 : decode cX10_leastOf 47 = .ok (.iconst 0, 1) := by decide +kernel
theorem dX10_leastOf_48 : decode cX10_leastOf 48 = .ok (.ireturn, 1) := by decide +kernel
def f_X10_leastOf (p0 : Int32) : Int32 :=
  if p0 = 0 then
    100
  else
    if p0 = 1 then
      1
    else
      if p0 = 8 then
        1
      else
        if p0 = 7 then
          1000
        else
          if p0 = 9 then
            10
          else
            0
set_option maxHeartbeats 4000000 in
set_option maxRecDepth 100000 in
theorem c_X10_leastOf (l : Launch) (D : va_G) (cI cJ cC : ClassId)  (p0 : Int32) (t0 : Int32) (h : f_X10_leastOf p0 = t0) : Met l yX10_leastOf (Cond.code yX10_leastOf cX10_leastOf 1 (some .int) :: TB) rm_X10_leastOf (PreR D cI cJ cC [] [.int p0]) (QR (some (.int t0))) 0 0 free0 := by
  refine metR (own := RX10) (by decide) rfl (Nat.le_of_ble_eq_true rfl) ?_
  intro p e s m below meth c S hr hlk hP hK ls hl
  have hx := S.1
  have hb := S.2.1
  have hl : lv_has ls 1 [(0, .int p0)] := hl
  refine lv_iload_n hx hb dX10_leastOf_0 rfl (lv_at hl 0 rfl) ?_
  refine lv_if_ne (tgt := 9) hx hb dX10_leastOf_1 (by decide) (fun c1 => ?_) (fun c1 => ?_)
  · have h := iteN c1 h
    refine lv_iload_n hx hb dX10_leastOf_9 rfl (lv_at hl 0 rfl) ?_
    refine lv_iconst (v := 1) hx hb dX10_leastOf_10 li_1 ?_
    refine lv_icmp_eq (tgt := 20) hx hb dX10_leastOf_11 (by decide) (fun c2 => ?_) (fun c2 => ?_)
    · have h := iteP c2 h
      refine lv_iconst (v := 1) hx hb dX10_leastOf_20 li_1 ?_
      refine lv_goto (tgt := 48) hx hb dX10_leastOf_21 (by decide) ?_
      subst h
      exact rRi S hr hlk dX10_leastOf_48
    · have h := iteN c2 h
      refine lv_iload_n hx hb dX10_leastOf_14 rfl (lv_at hl 0 rfl) ?_
      refine lv_bipush (v := 8) hx hb dX10_leastOf_15 lb_8 ?_
      refine lv_icmp_ne (tgt := 24) hx hb dX10_leastOf_17 (by decide) (fun c3 => ?_) (fun c3 => ?_)
      · have h := iteN c3 h
        refine lv_iload_n hx hb dX10_leastOf_24 rfl (lv_at hl 0 rfl) ?_
        refine lv_bipush (v := 7) hx hb dX10_leastOf_25 lb_7 ?_
        refine lv_icmp_ne (tgt := 36) hx hb dX10_leastOf_27 (by decide) (fun c4 => ?_) (fun c4 => ?_)
        · have h := iteN c4 h
          refine lv_iload_n hx hb dX10_leastOf_36 rfl (lv_at hl 0 rfl) ?_
          refine lv_bipush (v := 9) hx hb dX10_leastOf_37 lb_9 ?_
          refine lv_icmp_ne (tgt := 47) hx hb dX10_leastOf_39 (by decide) (fun c5 => ?_) (fun c5 => ?_)
          · have h := iteN c5 h
            refine lv_iconst (v := 0) hx hb dX10_leastOf_47 li_0 ?_
            subst h
            exact rRi S hr hlk dX10_leastOf_48
          · have h := iteP c5 h
            refine lv_bipush (v := 10) hx hb dX10_leastOf_42 lb_10 ?_
            refine lv_goto (tgt := 48) hx hb dX10_leastOf_44 (by decide) ?_
            subst h
            exact rRi S hr hlk dX10_leastOf_48
        · have h := iteP c4 h
          refine lv_sipush (v := 1000) hx hb dX10_leastOf_30 ls_1000 ?_
          refine lv_goto (tgt := 48) hx hb dX10_leastOf_33 (by decide) ?_
          subst h
          exact rRi S hr hlk dX10_leastOf_48
      · have h := iteP c3 h
        refine lv_iconst (v := 1) hx hb dX10_leastOf_20 li_1 ?_
        refine lv_goto (tgt := 48) hx hb dX10_leastOf_21 (by decide) ?_
        subst h
        exact rRi S hr hlk dX10_leastOf_48
  · have h := iteP c1 h
    refine lv_bipush (v := 100) hx hb dX10_leastOf_4 lb_100 ?_
    refine lv_goto (tgt := 48) hx hb dX10_leastOf_6 (by decide) ?_
    subst h
    exact rRi S hr hlk dX10_leastOf_48
abbrev rm_X10_mostOf : Room := { frames := 0, cells := 0, slots := 0, locals := 0 }
theorem dX10_mostOf_0 : decode cX10_mostOf 0 = .ok (.iload_n 0, 1) := by decide +kernel
theorem dX10_mostOf_1 : decode cX10_mostOf 1 = .ok (.tableswitch 95 0 12 #[67, 71, 75, 95, 95, 95, 95, 95, 79, 82, 85, 89, 93], 67) := by decide +kernel
theorem dX10_mostOf_68 : decode cX10_mostOf 68 = .ok (.sipush 10000, 3) := by decide +kernel
theorem dX10_mostOf_71 : decode cX10_mostOf 71 = .ok (.ireturn, 1) := by decide +kernel
theorem dX10_mostOf_72 : decode cX10_mostOf 72 = .ok (.sipush 200, 3) := by decide +kernel
theorem dX10_mostOf_75 : decode cX10_mostOf 75 = .ok (.ireturn, 1) := by decide +kernel
theorem dX10_mostOf_76 : decode cX10_mostOf 76 = .ok (.sipush 2000, 3) := by decide +kernel
theorem dX10_mostOf_79 : decode cX10_mostOf 79 = .ok (.ireturn, 1) := by decide +kernel
theorem dX10_mostOf_80 : decode cX10_mostOf 80 = .ok (.bipush 10, 2) := by decide +kernel
theorem dX10_mostOf_82 : decode cX10_mostOf 82 = .ok (.ireturn, 1) := by decide +kernel
theorem dX10_mostOf_83 : decode cX10_mostOf 83 = .ok (.bipush 100, 2) := by decide +kernel
theorem dX10_mostOf_85 : decode cX10_mostOf 85 = .ok (.ireturn, 1) := by decide +kernel
theorem dX10_mostOf_86 : decode cX10_mostOf 86 = .ok (.sipush 20000, 3) := by decide +kernel
theorem dX10_mostOf_89 : decode cX10_mostOf 89 = .ok (.ireturn, 1) := by decide +kernel
theorem dX10_mostOf_90 : decode cX10_mostOf 90 = .ok (.sipush 5000, 3) := by decide +kernel
theorem dX10_mostOf_93 : decode cX10_mostOf 93 = .ok (.ireturn, 1) := by decide +kernel
theorem dX10_mostOf_94 : decode cX10_mostOf 94 = .ok (.iconst 2, 1) := by decide +kernel
theorem dX10_mostOf_95 : decode cX10_mostOf 95 = .ok (.ireturn, 1) := by decide +kernel
theorem dX10_mostOf_96 : decode cX10_mostOf 96 = .ok (.ldc 32, 2) := by decide +kernel
theorem dX10_mostOf_98 : decode cX10_mostOf 98 = .ok (.ireturn, 1) := by decide +kernel
def f_X10_mostOf (p0 : Int32) : Int32 :=
  if p0 = 0 then
    10000
  else
    if p0 = 1 then
      200
    else
      if p0 = 2 then
        2000
      else
        if p0 = 3 then
          60000
        else
          if p0 = 4 then
            60000
          else
            if p0 = 5 then
              60000
            else
              if p0 = 6 then
                60000
              else
                if p0 = 7 then
                  60000
                else
                  if p0 = 8 then
                    10
                  else
                    if p0 = 9 then
                      100
                    else
                      if p0 = 10 then
                        20000
                      else
                        if p0 = 11 then
                          5000
                        else
                          if p0 = 12 then
                            2
                          else
                            60000
set_option maxHeartbeats 4000000 in
set_option maxRecDepth 100000 in
theorem c_X10_mostOf (l : Launch) (D : va_G) (cI cJ cC : ClassId)  (p0 : Int32) (t0 : Int32) (h : f_X10_mostOf p0 = t0) : Met l yX10_mostOf (Cond.code yX10_mostOf cX10_mostOf 1 (some .int) :: TB) rm_X10_mostOf (PreR D cI cJ cC [] [.int p0]) (QR (some (.int t0))) 0 0 free0 := by
  refine metR (own := RX10) (by decide) rfl (Nat.le_of_ble_eq_true rfl) ?_
  intro p e s m below meth c S hr hlk hP hK ls hl
  have hx := S.1
  have hb := S.2.1
  have hl : lv_has ls 1 [(0, .int p0)] := hl
  refine lv_iload_n hx hb dX10_mostOf_0 rfl (lv_at hl 0 rfl) ?_
  by_cases c1 : p0 = 0
  · have h := iteP c1 h
    refine lv_tableIn (off := 67) (tgt := 68) hx hb dX10_mostOf_1 (by rw [c1]; decide) (by rw [c1]; decide) (by rw [c1]; rfl) (by decide) ?_
    refine lv_sipush (v := 10000) hx hb dX10_mostOf_68 ls_10000 ?_
    subst h
    exact rRi S hr hlk dX10_mostOf_71
  · have h := iteN c1 h
    by_cases c2 : p0 = 1
    · have h := iteP c2 h
      refine lv_tableIn (off := 71) (tgt := 72) hx hb dX10_mostOf_1 (by rw [c2]; decide) (by rw [c2]; decide) (by rw [c2]; rfl) (by decide) ?_
      refine lv_sipush (v := 200) hx hb dX10_mostOf_72 ls_200 ?_
      subst h
      exact rRi S hr hlk dX10_mostOf_75
    · have h := iteN c2 h
      by_cases c3 : p0 = 2
      · have h := iteP c3 h
        refine lv_tableIn (off := 75) (tgt := 76) hx hb dX10_mostOf_1 (by rw [c3]; decide) (by rw [c3]; decide) (by rw [c3]; rfl) (by decide) ?_
        refine lv_sipush (v := 2000) hx hb dX10_mostOf_76 ls_2000 ?_
        subst h
        exact rRi S hr hlk dX10_mostOf_79
      · have h := iteN c3 h
        by_cases c4 : p0 = 3
        · have h := iteP c4 h
          refine lv_tableIn (off := 95) (tgt := 96) hx hb dX10_mostOf_1 (by rw [c4]; decide) (by rw [c4]; decide) (by rw [c4]; rfl) (by decide) ?_
          refine lv_ldc (v := 60000) hx hb S.2.2.2.1 (S.2.2.2.2 _ tb960) dX10_mostOf_96 ?_
          subst h
          exact rRi S hr hlk dX10_mostOf_98
        · have h := iteN c4 h
          by_cases c5 : p0 = 4
          · have h := iteP c5 h
            refine lv_tableIn (off := 95) (tgt := 96) hx hb dX10_mostOf_1 (by rw [c5]; decide) (by rw [c5]; decide) (by rw [c5]; rfl) (by decide) ?_
            refine lv_ldc (v := 60000) hx hb S.2.2.2.1 (S.2.2.2.2 _ tb960) dX10_mostOf_96 ?_
            subst h
            exact rRi S hr hlk dX10_mostOf_98
          · have h := iteN c5 h
            by_cases c6 : p0 = 5
            · have h := iteP c6 h
              refine lv_tableIn (off := 95) (tgt := 96) hx hb dX10_mostOf_1 (by rw [c6]; decide) (by rw [c6]; decide) (by rw [c6]; rfl) (by decide) ?_
              refine lv_ldc (v := 60000) hx hb S.2.2.2.1 (S.2.2.2.2 _ tb960) dX10_mostOf_96 ?_
              subst h
              exact rRi S hr hlk dX10_mostOf_98
            · have h := iteN c6 h
              by_cases c7 : p0 = 6
              · have h := iteP c7 h
                refine lv_tableIn (off := 95) (tgt := 96) hx hb dX10_mostOf_1 (by rw [c7]; decide) (by rw [c7]; decide) (by rw [c7]; rfl) (by decide) ?_
                refine lv_ldc (v := 60000) hx hb S.2.2.2.1 (S.2.2.2.2 _ tb960) dX10_mostOf_96 ?_
                subst h
                exact rRi S hr hlk dX10_mostOf_98
              · have h := iteN c7 h
                by_cases c8 : p0 = 7
                · have h := iteP c8 h
                  refine lv_tableIn (off := 95) (tgt := 96) hx hb dX10_mostOf_1 (by rw [c8]; decide) (by rw [c8]; decide) (by rw [c8]; rfl) (by decide) ?_
                  refine lv_ldc (v := 60000) hx hb S.2.2.2.1 (S.2.2.2.2 _ tb960) dX10_mostOf_96 ?_
                  subst h
                  exact rRi S hr hlk dX10_mostOf_98
                · have h := iteN c8 h
                  by_cases c9 : p0 = 8
                  · have h := iteP c9 h
                    refine lv_tableIn (off := 79) (tgt := 80) hx hb dX10_mostOf_1 (by rw [c9]; decide) (by rw [c9]; decide) (by rw [c9]; rfl) (by decide) ?_
                    refine lv_bipush (v := 10) hx hb dX10_mostOf_80 lb_10 ?_
                    subst h
                    exact rRi S hr hlk dX10_mostOf_82
                  · have h := iteN c9 h
                    by_cases c10 : p0 = 9
                    · have h := iteP c10 h
                      refine lv_tableIn (off := 82) (tgt := 83) hx hb dX10_mostOf_1 (by rw [c10]; decide) (by rw [c10]; decide) (by rw [c10]; rfl) (by decide) ?_
                      refine lv_bipush (v := 100) hx hb dX10_mostOf_83 lb_100 ?_
                      subst h
                      exact rRi S hr hlk dX10_mostOf_85
                    · have h := iteN c10 h
                      by_cases c11 : p0 = 10
                      · have h := iteP c11 h
                        refine lv_tableIn (off := 85) (tgt := 86) hx hb dX10_mostOf_1 (by rw [c11]; decide) (by rw [c11]; decide) (by rw [c11]; rfl) (by decide) ?_
                        refine lv_sipush (v := 20000) hx hb dX10_mostOf_86 ls_20000 ?_
                        subst h
                        exact rRi S hr hlk dX10_mostOf_89
                      · have h := iteN c11 h
                        by_cases c12 : p0 = 11
                        · have h := iteP c12 h
                          refine lv_tableIn (off := 89) (tgt := 90) hx hb dX10_mostOf_1 (by rw [c12]; decide) (by rw [c12]; decide) (by rw [c12]; rfl) (by decide) ?_
                          refine lv_sipush (v := 5000) hx hb dX10_mostOf_90 ls_5000 ?_
                          subst h
                          exact rRi S hr hlk dX10_mostOf_93
                        · have h := iteN c12 h
                          by_cases c13 : p0 = 12
                          · have h := iteP c13 h
                            refine lv_tableIn (off := 93) (tgt := 94) hx hb dX10_mostOf_1 (by rw [c13]; decide) (by rw [c13]; decide) (by rw [c13]; rfl) (by decide) ?_
                            refine lv_iconst (v := 2) hx hb dX10_mostOf_94 li_2 ?_
                            subst h
                            exact rRi S hr hlk dX10_mostOf_95
                          · have h := iteN c13 h
                            have q14_0 := lv_neT c1 (a := 0) (by decide)
                            have q14_1 := lv_neT c2 (a := 1) (by decide)
                            have q14_2 := lv_neT c3 (a := 2) (by decide)
                            have q14_3 := lv_neT c4 (a := 3) (by decide)
                            have q14_4 := lv_neT c5 (a := 4) (by decide)
                            have q14_5 := lv_neT c6 (a := 5) (by decide)
                            have q14_6 := lv_neT c7 (a := 6) (by decide)
                            have q14_7 := lv_neT c8 (a := 7) (by decide)
                            have q14_8 := lv_neT c9 (a := 8) (by decide)
                            have q14_9 := lv_neT c10 (a := 9) (by decide)
                            have q14_10 := lv_neT c11 (a := 10) (by decide)
                            have q14_11 := lv_neT c12 (a := 11) (by decide)
                            have q14_12 := lv_neT c13 (a := 12) (by decide)
                            refine lv_tableOut (tgt := 96) hx hb dX10_mostOf_1 (by omega) (by decide) ?_
                            refine lv_ldc (v := 60000) hx hb S.2.2.2.1 (S.2.2.2.2 _ tb960) dX10_mostOf_96 ?_
                            subst h
                            exact rRi S hr hlk dX10_mostOf_98
abbrev rm_X10_setParameter : Room := { frames := 1, cells := 0, slots := 0, locals := 25 }
theorem dX10_setParameter_0 : decode cX10_setParameter 0 = .ok (.aload_n 0, 1) := by decide +kernel
theorem dX10_setParameter_1 : decode cX10_setParameter 1 = .ok (.iconst 0, 1) := by decide +kernel
theorem dX10_setParameter_2 : decode cX10_setParameter 2 = .ok (.putfield 33, 3) := by decide +kernel
theorem dX10_setParameter_5 : decode cX10_setParameter 5 = .ok (.iload_n 1, 1) := by decide +kernel
theorem dX10_setParameter_6 : decode cX10_setParameter 6 = .ok (.i2l, 1) := by decide +kernel
theorem dX10_setParameter_7 : decode cX10_setParameter 7 = .ok (.lconst 0, 1) := by decide +kernel
theorem dX10_setParameter_8 : decode cX10_setParameter 8 = .ok (.ldc2_w 37, 3) := by decide +kernel
theorem dX10_setParameter_11 : decode cX10_setParameter 11 = .ok (.invokestatic 39, 3) := by decide +kernel
theorem dX10_setParameter_14 : decode cX10_setParameter 14 = .ok (.ifCond .ne 9, 3) := by decide +kernel
theorem dX10_setParameter_17 : decode cX10_setParameter 17 = .ok (.aload_n 0, 1) := by decide +kernel
theorem dX10_setParameter_18 : decode cX10_setParameter 18 = .ok (.iconst 1, 1) := by decide +kernel
theorem dX10_setParameter_19 : decode cX10_setParameter 19 = .ok (.invokevirtual 43, 3) := by decide +kernel
theorem dX10_setParameter_22 : decode cX10_setParameter 22 = .ok (.ireturn, 1) := by decide +kernel
theorem dX10_setParameter_23 : decode cX10_setParameter 23 = .ok (.iload_n 2, 1) := by decide +kernel
theorem dX10_setParameter_24 : decode cX10_setParameter 24 = .ok (.i2l, 1) := by decide +kernel
theorem dX10_setParameter_25 : decode cX10_setParameter 25 = .ok (.iload_n 1, 1) := by decide +kernel
theorem dX10_setParameter_26 : decode cX10_setParameter 26 = .ok (.invokestatic 47, 3) := by decide +kernel
theorem dX10_setParameter_29 : decode cX10_setParameter 29 = .ok (.i2l, 1) := by decide +kernel
theorem dX10_setParameter_30 : decode cX10_setParameter 30 = .ok (.iload_n 1, 1) := by decide +kernel
theorem dX10_setParameter_31 : decode cX10_setParameter 31 = .ok (.invokestatic 50, 3) := by decide +kernel
theorem dX10_setParameter_34 : decode cX10_setParameter 34 = .ok (.i2l, 1) := by decide +kernel
theorem dX10_setParameter_35 : decode cX10_setParameter 35 = .ok (.invokestatic 39, 3) := by decide +kernel
theorem dX10_setParameter_38 : decode cX10_setParameter 38 = .ok (.ifCond .ne 9, 3) := by decide +kernel
theorem dX10_setParameter_41 : decode cX10_setParameter 41 = .ok (.aload_n 0, 1) := by decide +kernel
theorem dX10_setParameter_42 : decode cX10_setParameter 42 = .ok (.iconst 2, 1) := by decide +kernel
theorem dX10_setParameter_43 : decode cX10_setParameter 43 = .ok (.invokevirtual 43, 3) := by decide +kernel
theorem dX10_setParameter_46 : decode cX10_setParameter 46 = .ok (.ireturn, 1) := by decide +kernel
theorem dX10_setParameter_47 : decode cX10_setParameter 47 = .ok (.aload_n 0, 1) := by decide +kernel
theorem dX10_setParameter_48 : decode cX10_setParameter 48 = .ok (.getfield 53, 3) := by decide +kernel
theorem dX10_setParameter_51 : decode cX10_setParameter 51 = .ok (.ifCond .eq 9, 3) := by decide +kernel
theorem dX10_setParameter_54 : decode cX10_setParameter 54 = .ok (.aload_n 0, 1) := by decide +kernel
theorem dX10_setParameter_55 : decode cX10_setParameter 55 = .ok (.iconst 3, 1) := by decide +kernel
theorem dX10_setParameter_56 : decode cX10_setParameter 56 = .ok (.invokevirtual 43, 3) := by decide +kernel
theorem dX10_setParameter_59 : decode cX10_setParameter 59 = .ok (.ireturn, 1) := by decide +kernel
theorem dX10_setParameter_60 : decode cX10_setParameter 60 = .ok (.aload_n 0, 1) := by decide +kernel
theorem dX10_setParameter_61 : decode cX10_setParameter 61 = .ok (.getfield 7, 3) := by decide +kernel
theorem dX10_setParameter_64 : decode cX10_setParameter 64 = .ok (.iload_n 1, 1) := by decide +kernel
theorem dX10_setParameter_65 : decode cX10_setParameter 65 = .ok (.iaload, 1) := by decide +kernel
theorem dX10_setParameter_66 : decode cX10_setParameter 66 = .ok (.istore_n 3, 1) := by decide +kernel
theorem dX10_setParameter_67 : decode cX10_setParameter 67 = .ok (.aload_n 0, 1) := by decide +kernel
theorem dX10_setParameter_68 : decode cX10_setParameter 68 = .ok (.getfield 7, 3) := by decide +kernel
theorem dX10_setParameter_71 : decode cX10_setParameter 71 = .ok (.iload_n 1, 1) := by decide +kernel
theorem dX10_setParameter_72 : decode cX10_setParameter 72 = .ok (.iload_n 2, 1) := by decide +kernel
theorem dX10_setParameter_73 : decode cX10_setParameter 73 = .ok (.iastore, 1) := by decide +kernel
theorem dX10_setParameter_74 : decode cX10_setParameter 74 = .ok (.iload_n 3, 1) := by decide +kernel
theorem dX10_setParameter_75 : decode cX10_setParameter 75 = .ok (.ireturn, 1) := by decide +kernel
theorem cw_X10_39 {R : Room} {s : State} {args : Array Value} (hts : ∀ w ∈ TB, w.before args s = true) (hR : rm_X10_in.frames + 1 ≤ R.frames ∧ 8 + (6 + 11) + rm_X10_in.locals ≤ R.locals) : CallB R s args RX10 39 yX10_in cX10_in 6 (some .boolean) (Cond.code yX10_in cX10_in 6 (some .boolean) :: TB) rm_X10_in 0 0 3 ∧ (Cond.static yX10_in).before args s = true := cwS 3 hts (gS tb1001 tb1002 tb57 tb1003) rfl rfl rfl ⟨rfl, by decide, by decide, by decide +kernel⟩ hR
theorem cw_X10_47 {R : Room} {s : State} {args : Array Value} (hts : ∀ w ∈ TB, w.before args s = true) (hR : rm_X10_leastOf.frames + 1 ≤ R.frames ∧ 8 + (1 + 11) + rm_X10_leastOf.locals ≤ R.locals) : CallB R s args RX10 47 yX10_leastOf cX10_leastOf 1 (some .int) (Cond.code yX10_leastOf cX10_leastOf 1 (some .int) :: TB) rm_X10_leastOf 0 0 1 ∧ (Cond.static yX10_leastOf).before args s = true := cwS 1 hts (gS tb1007 tb1008 tb57 tb1009) rfl rfl rfl ⟨rfl, by decide, by decide, by decide +kernel⟩ hR
theorem cw_X10_50 {R : Room} {s : State} {args : Array Value} (hts : ∀ w ∈ TB, w.before args s = true) (hR : rm_X10_mostOf.frames + 1 ≤ R.frames ∧ 8 + (1 + 11) + rm_X10_mostOf.locals ≤ R.locals) : CallB R s args RX10 50 yX10_mostOf cX10_mostOf 1 (some .int) (Cond.code yX10_mostOf cX10_mostOf 1 (some .int) :: TB) rm_X10_mostOf 0 0 1 ∧ (Cond.static yX10_mostOf).before args s = true := cwS 1 hts (gS tb1010 tb1011 tb57 tb1012) rfl rfl rfl ⟨rfl, by decide, by decide, by decide +kernel⟩ hR
theorem gf_X10_53 {p : Program} {l : Launch} {e : Env} {R : Room} {s : State} {m : MethodId} {args : Array Value} {below : List Frame} {meth : Method} {c : Code} {H : Heap} {locs : List Loc} {cells slots : Nat} {Q : State → Prop} {cc : ByteArray} {pc nL : Nat} {ls : Array Slot} {rest : List Value} {D : va_G} {ws : va_W} {tys : List (ClassId × FieldType)} (S : CallFix p m c cc nL s args TB RX10) (hK : va_K D vwCl tys s) (hP : va_P D vwCl ws H) (q0 : Nat) {a : Nat} {fs : List Value} (he : ws[q0]? = some (a, .inr (10, fs))) {v : Value} (hv : fs[8]? = some v) (hdg : decode cc pc = .ok (.getfield 53, 3))
    (kk : W p l e R s m args below meth c H locs cells slots Q (F0 m (pc + 3) ls (v :: rest))) : W p l e R s m args below meth c H locs cells slots Q (F0 m pc ls (.ref a :: rest)) :=
  va_get (D := D) (ci := 10) (C := RX10) (T := TX10) (N := 10) S.1 S.2.1 S.2.2.2.2 iwX10 S.2.2.2.1 hK hP q0 he rfl 8 (by decide) (S.2.2.2.2 _ tb969) (fun _ h9 => h9) hv hdg kk
theorem gf_X10_7 {p : Program} {l : Launch} {e : Env} {R : Room} {s : State} {m : MethodId} {args : Array Value} {below : List Frame} {meth : Method} {c : Code} {H : Heap} {locs : List Loc} {cells slots : Nat} {Q : State → Prop} {cc : ByteArray} {pc nL : Nat} {ls : Array Slot} {rest : List Value} {D : va_G} {ws : va_W} {tys : List (ClassId × FieldType)} (S : CallFix p m c cc nL s args TB RX10) (hK : va_K D vwCl tys s) (hP : va_P D vwCl ws H) (q0 : Nat) {a : Nat} {fs : List Value} (he : ws[q0]? = some (a, .inr (10, fs))) {v : Value} (hv : fs[0]? = some v) (hdg : decode cc pc = .ok (.getfield 7, 3))
    (kk : W p l e R s m args below meth c H locs cells slots Q (F0 m (pc + 3) ls (v :: rest))) : W p l e R s m args below meth c H locs cells slots Q (F0 m pc ls (.ref a :: rest)) :=
  va_get (D := D) (ci := 10) (C := RX10) (T := TX10) (N := 10) S.1 S.2.1 S.2.2.2.2 iwX10 S.2.2.2.1 hK hP q0 he rfl 0 (by decide) (S.2.2.2.2 _ tb961) (fun _ h9 => h9) hv hdg kk
theorem cw_X10_43 {R : Room} {s : State} {args : Array Value} (hts : ∀ w ∈ TB, w.before args s = true) (hR : rm_X10_fails.frames + 1 ≤ R.frames ∧ 8 + (2 + 11) + rm_X10_fails.locals ≤ R.locals) : CallW R s args RX10 RX10 43 yX10_fails cX10_fails 2 (some .int) (Cond.code yX10_fails cX10_fails 2 (some .int) :: TB) rm_X10_fails 0 0 1 := cwV 1 hts (gV tb1004 tb1005 tb20 tb57 tb1006) rfl rfl rfl ⟨rfl, by decide, by decide, by decide +kernel⟩ hR
def f_X10_setParameter (v0_has : Int32) (r1 : Nat → Int32) (p0 p1 : Int32) : Option (Int32 × Int32 × (Nat → Int32)) :=
  if (f_X10_in p0.toInt64 0 14) = 0 then
    bnd2 (f_X10_fails 1) fun (y11 : Int32) (y12 : Int32) =>
    some (y11, y12, r1)
  else
    if (f_X10_in p1.toInt64 ((f_X10_leastOf p0).toInt64) ((f_X10_mostOf p0).toInt64)) = 0 then
      bnd2 (f_X10_fails 2) fun (y9 : Int32) (y10 : Int32) =>
      some (y9, y10, r1)
    else
      if v0_has = 0 then
        grd (vin p0 15) <|
        grd (vin p0 15) <|
        bnd (upd r1 p0.toNatClampNeg p1) fun (u6 : Nat → Int32) =>
        some (r1 p0.toNatClampNeg, 0, u6)
      else
        bnd2 (f_X10_fails 3) fun (y7 : Int32) (y8 : Int32) =>
        some (y7, y8, r1)
set_option maxHeartbeats 4000000 in
set_option maxRecDepth 100000 in
theorem c_X10_setParameter (l : Launch) (D : va_G) (cI cJ cC : ClassId) (h0 h1 kthis_rates kthis_ladder kthis_lengths kthis_flows kthis_now kthis_trial : Nat) (v0_phases v0_has v0_thrown : Int32) (r1 : Nat → Int32) (sz : Nat) (p0 p1 : Int32) (T : Int32 × Int32 × (Nat → Int32)) (h : f_X10_setParameter v0_has r1 p0 p1 = some T) : Met l yX10_setParameter (Cond.code yX10_setParameter cX10_setParameter 4 (some .int) :: TB) rm_X10_setParameter (PreW D cI cJ cC [(h0, .inr (10, [.ref h1, .ref kthis_rates, .ref kthis_ladder, .ref kthis_lengths, .ref kthis_flows, .int v0_phases, .ref kthis_now, .ref kthis_trial, .int v0_has, .int v0_thrown])), (h1, .inl (cI, 15, .inl r1))] sz [.ref h0, .int p0, .int p1]) (QW (some (.int T.1)) D [(h0, .inr (10, [.ref h1, .ref kthis_rates, .ref kthis_ladder, .ref kthis_lengths, .ref kthis_flows, .int v0_phases, .ref kthis_now, .ref kthis_trial, .int v0_has, .int T.2.1])), (h1, .inl (cI, 15, .inl T.2.2))] (va_A [(h0, .inr (10, [.ref h1, .ref kthis_rates, .ref kthis_ladder, .ref kthis_lengths, .ref kthis_flows, .int v0_phases, .ref kthis_now, .ref kthis_trial, .int v0_has, .int v0_thrown])), (h1, .inl (cI, 15, .inl r1))] sz)) 0 0 (va_A [(h0, .inr (10, [.ref h1, .ref kthis_rates, .ref kthis_ladder, .ref kthis_lengths, .ref kthis_flows, .int v0_phases, .ref kthis_now, .ref kthis_trial, .int v0_has, .int v0_thrown])), (h1, .inl (cI, 15, .inl r1))] sz) := by
  refine metW (own := RX10) (by decide) rfl (Nat.le_of_ble_eq_true rfl) ?_
  intro p e s m below meth c S hr hlk hP hK A hAe hD hA hS ls hl
  clear hAe
  have hx := S.1
  have hb := S.2.1
  have hl : lv_has ls 4 [(0, .ref h0), (1, .int p0), (2, .int p1)] := hl
  refine lv_aload_n hx hb dX10_setParameter_0 rfl (lv_at hl 0 rfl) ?_
  refine lv_iconst (v := 0) hx hb dX10_setParameter_1 li_0 ?_
  refine pf_X10_33 (v := .int 0) S hK hP hD hS 0 rfl (Nat.le_of_ble_eq_true rfl) rfl dX10_setParameter_2 (fun H locs hP hD hS => ?_)
  have hP : va_P D vwCl [(h0, .inr (10, [.ref h1, .ref kthis_rates, .ref kthis_ladder, .ref kthis_lengths, .ref kthis_flows, .int v0_phases, .ref kthis_now, .ref kthis_trial, .int v0_has, .int 0])), (h1, .inl (cI, 15, .inl r1))] H := hP
  have hD : va_D A [(h0, .inr (10, [.ref h1, .ref kthis_rates, .ref kthis_ladder, .ref kthis_lengths, .ref kthis_flows, .int v0_phases, .ref kthis_now, .ref kthis_trial, .int v0_has, .int 0])), (h1, .inl (cI, 15, .inl r1))] := hD
  refine lv_iload_n hx hb dX10_setParameter_5 rfl (lv_at hl 1 rfl) ?_
  refine lv_i2l hx hb dX10_setParameter_6 rfl ?_
  refine lv_lconst (v := 0) hx hb dX10_setParameter_7 rfl ?_
  refine lv_ldc2 (v := 14) hx hb S.2.2.2.1 (S.2.2.2.2 _ tb1000) dX10_setParameter_8 ?_
  refine rdS (pc1 := 14) (rest := []) (st1 := [.int (f_X10_in p0.toInt64 0 14)]) S (c_X10_in l D cI cJ cC  p0.toInt64 0 14 _ rfl) (cw_X10_39 S.2.2.2.2 ⟨Nat.le_of_ble_eq_true rfl, Nat.le_of_ble_eq_true rfl⟩) hK (hP.sub [] rfl) rfl hl.1 rfl (Nat.le_of_ble_eq_true rfl) ⟨Nat.zero_le _, Nat.zero_le _⟩ rfl rfl dX10_setParameter_11 ?_
  refine lv_if_ne (tgt := 23) hx hb dX10_setParameter_14 (by decide) (fun c1 => ?_) (fun c1 => ?_)
  · have h := iteN c1 h
    refine lv_iload_n hx hb dX10_setParameter_23 rfl (lv_at hl 2 rfl) ?_
    refine lv_i2l hx hb dX10_setParameter_24 rfl ?_
    refine lv_iload_n hx hb dX10_setParameter_25 rfl (lv_at hl 1 rfl) ?_
    refine rdS (pc1 := 29) (rest := [.long p1.toInt64]) (st1 := [.int (f_X10_leastOf p0), .long p1.toInt64]) S (c_X10_leastOf l D cI cJ cC  p0 _ rfl) (cw_X10_47 S.2.2.2.2 ⟨Nat.le_of_ble_eq_true rfl, Nat.le_of_ble_eq_true rfl⟩) hK (hP.sub [] rfl) rfl hl.1 rfl (Nat.le_of_ble_eq_true rfl) ⟨Nat.zero_le _, Nat.zero_le _⟩ rfl rfl dX10_setParameter_26 ?_
    refine lv_i2l hx hb dX10_setParameter_29 rfl ?_
    refine lv_iload_n hx hb dX10_setParameter_30 rfl (lv_at hl 1 rfl) ?_
    refine rdS (pc1 := 34) (rest := [.long ((f_X10_leastOf p0).toInt64), .long p1.toInt64]) (st1 := [.int (f_X10_mostOf p0), .long ((f_X10_leastOf p0).toInt64), .long p1.toInt64]) S (c_X10_mostOf l D cI cJ cC  p0 _ rfl) (cw_X10_50 S.2.2.2.2 ⟨Nat.le_of_ble_eq_true rfl, Nat.le_of_ble_eq_true rfl⟩) hK (hP.sub [] rfl) rfl hl.1 rfl (Nat.le_of_ble_eq_true rfl) ⟨Nat.zero_le _, Nat.zero_le _⟩ rfl rfl dX10_setParameter_31 ?_
    refine lv_i2l hx hb dX10_setParameter_34 rfl ?_
    refine rdS (pc1 := 38) (rest := []) (st1 := [.int (f_X10_in p1.toInt64 ((f_X10_leastOf p0).toInt64) ((f_X10_mostOf p0).toInt64))]) S (c_X10_in l D cI cJ cC  p1.toInt64 ((f_X10_leastOf p0).toInt64) ((f_X10_mostOf p0).toInt64) _ rfl) (cw_X10_39 S.2.2.2.2 ⟨Nat.le_of_ble_eq_true rfl, Nat.le_of_ble_eq_true rfl⟩) hK (hP.sub [] rfl) rfl hl.1 rfl (Nat.le_of_ble_eq_true rfl) ⟨Nat.zero_le _, Nat.zero_le _⟩ rfl rfl dX10_setParameter_35 ?_
    refine lv_if_ne (tgt := 47) hx hb dX10_setParameter_38 (by decide) (fun c2 => ?_) (fun c2 => ?_)
    · have h := iteN c2 h
      refine lv_aload_n hx hb dX10_setParameter_47 rfl (lv_at hl 0 rfl) ?_
      refine gf_X10_53 (v := .int v0_has) S hK hP 0 rfl rfl dX10_setParameter_48 ?_
      refine lv_if_eq (tgt := 60) hx hb dX10_setParameter_51 (by decide) (fun c3 => ?_) (fun c3 => ?_)
      · have h := iteP c3 h
        refine lv_aload_n hx hb dX10_setParameter_60 rfl (lv_at hl 0 rfl) ?_
        refine gf_X10_7 (v := .ref h1) S hK hP 0 rfl rfl dX10_setParameter_61 ?_
        refine lv_iload_n hx hb dX10_setParameter_64 rfl (lv_at hl 1 rfl) ?_
        obtain ⟨g4, h⟩ := grd_eq h
        refine aldI (k := p0.toNatClampNeg) (q0 := 1) S hK hP rfl (vin_in g4) rfl dX10_setParameter_65 ?_
        refine lv_istore_n (lv' := [(3, .int (r1 p0.toNatClampNeg)), (0, .ref h0), (1, .int p0), (2, .int p1)]) hx hb dX10_setParameter_66 rfl hl (by decide) rfl (fun ls hl => ?_)
        refine lv_aload_n hx hb dX10_setParameter_67 rfl (lv_at hl 1 rfl) ?_
        refine gf_X10_7 (v := .ref h1) S hK hP 0 rfl rfl dX10_setParameter_68 ?_
        refine lv_iload_n hx hb dX10_setParameter_71 rfl (lv_at hl 2 rfl) ?_
        refine lv_iload_n hx hb dX10_setParameter_72 rfl (lv_at hl 3 rfl) ?_
        obtain ⟨g5, h⟩ := grd_eq h
        refine astI (k := p0.toNatClampNeg) (q0 := 1) S hK hP hD hS rfl (vin_in g5) rfl dX10_setParameter_73 (fun H locs hP hD hS => ?_)
        have hP : va_P D vwCl [(h0, .inr (10, [.ref h1, .ref kthis_rates, .ref kthis_ladder, .ref kthis_lengths, .ref kthis_flows, .int v0_phases, .ref kthis_now, .ref kthis_trial, .int v0_has, .int 0])), (h1, .inl (cI, 15, .inl (upd r1 p0.toNatClampNeg p1)))] H := hP
        have hD : va_D A [(h0, .inr (10, [.ref h1, .ref kthis_rates, .ref kthis_ladder, .ref kthis_lengths, .ref kthis_flows, .int v0_phases, .ref kthis_now, .ref kthis_trial, .int v0_has, .int 0])), (h1, .inl (cI, 15, .inl (upd r1 p0.toNatClampNeg p1)))] := hD
        obtain ⟨u6, e_u6⟩ : ∃ z, z = upd r1 p0.toNatClampNeg p1 := ⟨_, rfl⟩
        rw [← e_u6] at hP hD
        have h := bnd_eq e_u6.symm h
        refine lv_iload_n hx hb dX10_setParameter_74 rfl (lv_at hl 0 rfl) ?_
        have h := Option.some.inj h
        subst h
        exact wRi S hr hlk (hP.sub [0, 1] rfl) (hD.sub [0, 1] (by decide) rfl) hS dX10_setParameter_75
      · have h := iteN c3 h
        refine lv_aload_n hx hb dX10_setParameter_54 rfl (lv_at hl 0 rfl) ?_
        refine lv_iconst (v := 3) hx hb dX10_setParameter_55 li_3 ?_
        obtain ⟨y7, y8, e_y7⟩ : ∃ a0 a1, f_X10_fails 3 = (a0, a1) := ⟨_, _, rfl⟩
        have h := bnd2_eq e_y7 h
        refine wrV (pc1 := 59) (rest := []) (st1 := [.int y7]) (wr := [(h1, .inl (cI, 15, .inl r1))]) S (c_X10_fails l D cI cJ cC h0 h1 kthis_rates kthis_ladder kthis_lengths kthis_flows kthis_now kthis_trial v0_phases v0_has 0 H.size 3 (y7, y8) e_y7) (cw_X10_43 S.2.2.2.2 ⟨Nat.le_of_ble_eq_true rfl, Nat.le_of_ble_eq_true rfl⟩) hK hP hD hS hA [0] [1] rfl rfl rfl (by decide) (by decide) (by decide) rfl rfl rfl rfl hl.1 rfl (Nat.le_of_ble_eq_true rfl) ⟨Nat.zero_le _, Nat.zero_le _⟩ rfl rfl dX10_setParameter_56 (fun H locs hP hD hS => ?_)
        have hP : va_P D vwCl [(h1, .inl (cI, 15, .inl r1)), (h0, .inr (10, [.ref h1, .ref kthis_rates, .ref kthis_ladder, .ref kthis_lengths, .ref kthis_flows, .int v0_phases, .ref kthis_now, .ref kthis_trial, .int v0_has, .int y8]))] H := hP
        have hD : va_D A [(h1, .inl (cI, 15, .inl r1)), (h0, .inr (10, [.ref h1, .ref kthis_rates, .ref kthis_ladder, .ref kthis_lengths, .ref kthis_flows, .int v0_phases, .ref kthis_now, .ref kthis_trial, .int v0_has, .int y8]))] := hD
        have h := Option.some.inj h
        subst h
        exact wRi S hr hlk (hP.sub [1, 0] rfl) (hD.sub [1, 0] (by decide) rfl) hS dX10_setParameter_59
    · have h := iteP c2 h
      refine lv_aload_n hx hb dX10_setParameter_41 rfl (lv_at hl 0 rfl) ?_
      refine lv_iconst (v := 2) hx hb dX10_setParameter_42 li_2 ?_
      obtain ⟨y9, y10, e_y9⟩ : ∃ a0 a1, f_X10_fails 2 = (a0, a1) := ⟨_, _, rfl⟩
      have h := bnd2_eq e_y9 h
      refine wrV (pc1 := 46) (rest := []) (st1 := [.int y9]) (wr := [(h1, .inl (cI, 15, .inl r1))]) S (c_X10_fails l D cI cJ cC h0 h1 kthis_rates kthis_ladder kthis_lengths kthis_flows kthis_now kthis_trial v0_phases v0_has 0 H.size 2 (y9, y10) e_y9) (cw_X10_43 S.2.2.2.2 ⟨Nat.le_of_ble_eq_true rfl, Nat.le_of_ble_eq_true rfl⟩) hK hP hD hS hA [0] [1] rfl rfl rfl (by decide) (by decide) (by decide) rfl rfl rfl rfl hl.1 rfl (Nat.le_of_ble_eq_true rfl) ⟨Nat.zero_le _, Nat.zero_le _⟩ rfl rfl dX10_setParameter_43 (fun H locs hP hD hS => ?_)
      have hP : va_P D vwCl [(h1, .inl (cI, 15, .inl r1)), (h0, .inr (10, [.ref h1, .ref kthis_rates, .ref kthis_ladder, .ref kthis_lengths, .ref kthis_flows, .int v0_phases, .ref kthis_now, .ref kthis_trial, .int v0_has, .int y10]))] H := hP
      have hD : va_D A [(h1, .inl (cI, 15, .inl r1)), (h0, .inr (10, [.ref h1, .ref kthis_rates, .ref kthis_ladder, .ref kthis_lengths, .ref kthis_flows, .int v0_phases, .ref kthis_now, .ref kthis_trial, .int v0_has, .int y10]))] := hD
      have h := Option.some.inj h
      subst h
      exact wRi S hr hlk (hP.sub [1, 0] rfl) (hD.sub [1, 0] (by decide) rfl) hS dX10_setParameter_46
  · have h := iteP c1 h
    refine lv_aload_n hx hb dX10_setParameter_17 rfl (lv_at hl 0 rfl) ?_
    refine lv_iconst (v := 1) hx hb dX10_setParameter_18 li_1 ?_
    obtain ⟨y11, y12, e_y11⟩ : ∃ a0 a1, f_X10_fails 1 = (a0, a1) := ⟨_, _, rfl⟩
    have h := bnd2_eq e_y11 h
    refine wrV (pc1 := 22) (rest := []) (st1 := [.int y11]) (wr := [(h1, .inl (cI, 15, .inl r1))]) S (c_X10_fails l D cI cJ cC h0 h1 kthis_rates kthis_ladder kthis_lengths kthis_flows kthis_now kthis_trial v0_phases v0_has 0 H.size 1 (y11, y12) e_y11) (cw_X10_43 S.2.2.2.2 ⟨Nat.le_of_ble_eq_true rfl, Nat.le_of_ble_eq_true rfl⟩) hK hP hD hS hA [0] [1] rfl rfl rfl (by decide) (by decide) (by decide) rfl rfl rfl rfl hl.1 rfl (Nat.le_of_ble_eq_true rfl) ⟨Nat.zero_le _, Nat.zero_le _⟩ rfl rfl dX10_setParameter_19 (fun H locs hP hD hS => ?_)
    have hP : va_P D vwCl [(h1, .inl (cI, 15, .inl r1)), (h0, .inr (10, [.ref h1, .ref kthis_rates, .ref kthis_ladder, .ref kthis_lengths, .ref kthis_flows, .int v0_phases, .ref kthis_now, .ref kthis_trial, .int v0_has, .int y12]))] H := hP
    have hD : va_D A [(h1, .inl (cI, 15, .inl r1)), (h0, .inr (10, [.ref h1, .ref kthis_rates, .ref kthis_ladder, .ref kthis_lengths, .ref kthis_flows, .int v0_phases, .ref kthis_now, .ref kthis_trial, .int v0_has, .int y12]))] := hD
    have h := Option.some.inj h
    subst h
    exact wRi S hr hlk (hP.sub [1, 0] rfl) (hD.sub [1, 0] (by decide) rfl) hS dX10_setParameter_22
abbrev rm_X10_rate : Room := { frames := 0, cells := 0, slots := 0, locals := 0 }
theorem dX10_rate_0 : decode cX10_rate 0 = .ok (.aload_n 0, 1) := by decide +kernel
theorem dX10_rate_1 : decode cX10_rate 1 = .ok (.getfield 13, 3) := by decide +kernel
theorem dX10_rate_4 : decode cX10_rate 4 = .ok (.bipush 6, 2) := by decide +kernel
theorem dX10_rate_6 : decode cX10_rate 6 = .ok (.iload_n 1, 1) := by decide +kernel
theorem dX10_rate_7 : decode cX10_rate 7 = .ok (.imul, 1) := by decide +kernel
theorem dX10_rate_8 : decode cX10_rate 8 = .ok (.lload_n 2, 1) := by decide +kernel
theorem dX10_rate_9 : decode cX10_rate 9 = .ok (.l2i, 1) := by decide +kernel
theorem dX10_rate_10 : decode cX10_rate 10 = .ok (.iadd, 1) := by decide +kernel
theorem dX10_rate_11 : decode cX10_rate 11 = .ok (.iaload, 1) := by decide +kernel
theorem dX10_rate_12 : decode cX10_rate 12 = .ok (.ireturn, 1) := by decide +kernel
theorem gf_X10_13 {p : Program} {l : Launch} {e : Env} {R : Room} {s : State} {m : MethodId} {args : Array Value} {below : List Frame} {meth : Method} {c : Code} {H : Heap} {locs : List Loc} {cells slots : Nat} {Q : State → Prop} {cc : ByteArray} {pc nL : Nat} {ls : Array Slot} {rest : List Value} {D : va_G} {ws : va_W} {tys : List (ClassId × FieldType)} (S : CallFix p m c cc nL s args TB RX10) (hK : va_K D vwCl tys s) (hP : va_P D vwCl ws H) (q0 : Nat) {a : Nat} {fs : List Value} (he : ws[q0]? = some (a, .inr (10, fs))) {v : Value} (hv : fs[1]? = some v) (hdg : decode cc pc = .ok (.getfield 13, 3))
    (kk : W p l e R s m args below meth c H locs cells slots Q (F0 m (pc + 3) ls (v :: rest))) : W p l e R s m args below meth c H locs cells slots Q (F0 m pc ls (.ref a :: rest)) :=
  va_get (D := D) (ci := 10) (C := RX10) (T := TX10) (N := 10) S.1 S.2.1 S.2.2.2.2 iwX10 S.2.2.2.1 hK hP q0 he rfl 1 (by decide) (S.2.2.2.2 _ tb962) (fun _ h9 => h9) hv hdg kk
def f_X10_rate (r1 : Nat → Int32) (p0 : Int32) (p1 : Int64) : Option Int32 :=
  grd (vin ((6 * p0) + p1.toInt32) 12) <|
  some (r1 ((6 * p0) + p1.toInt32).toNatClampNeg)
set_option maxHeartbeats 4000000 in
set_option maxRecDepth 100000 in
theorem c_X10_rate (l : Launch) (D : va_G) (cI cJ cC : ClassId) (h0 h1 kthis_p kthis_ladder kthis_lengths kthis_flows kthis_now kthis_trial : Nat) (v0_phases v0_has v0_thrown : Int32) (r1 : Nat → Int32) (p0 : Int32) (p1 : Int64) (t0 : Int32) (h : f_X10_rate r1 p0 p1 = some t0) : Met l yX10_rate (Cond.code yX10_rate cX10_rate 4 (some .int) :: TB) rm_X10_rate (PreR D cI cJ cC [(h0, .inr (10, [.ref kthis_p, .ref h1, .ref kthis_ladder, .ref kthis_lengths, .ref kthis_flows, .int v0_phases, .ref kthis_now, .ref kthis_trial, .int v0_has, .int v0_thrown])), (h1, .inl (cI, 12, .inl r1))] [.ref h0, .int p0, .long p1]) (QR (some (.int t0))) 0 0 free0 := by
  refine metR (own := RX10) (by decide) rfl (Nat.le_of_ble_eq_true rfl) ?_
  intro p e s m below meth c S hr hlk hP hK ls hl
  have hx := S.1
  have hb := S.2.1
  have hl : lv_has ls 4 [(0, .ref h0), (1, .int p0), (2, .long p1)] := hl
  refine lv_aload_n hx hb dX10_rate_0 rfl (lv_at hl 0 rfl) ?_
  refine gf_X10_13 (v := .ref h1) S hK hP 0 rfl rfl dX10_rate_1 ?_
  refine lv_bipush (v := 6) hx hb dX10_rate_4 lb_6 ?_
  refine lv_iload_n hx hb dX10_rate_6 rfl (lv_at hl 1 rfl) ?_
  refine lv_imul hx hb dX10_rate_7 ?_
  refine lv_lload_n hx hb dX10_rate_8 rfl (lv_at hl 2 rfl) ?_
  refine lv_l2i hx hb dX10_rate_9 rfl ?_
  refine lv_iadd hx hb dX10_rate_10 ?_
  obtain ⟨g1, h⟩ := grd_eq h
  refine aldI (k := ((6 * p0) + p1.toInt32).toNatClampNeg) (q0 := 1) S hK hP rfl (vin_in g1) rfl dX10_rate_11 ?_
  have h := Option.some.inj h
  subst h
  exact rRi S hr hlk dX10_rate_12
abbrev rm_X10_addRung : Room := { frames := 1, cells := 0, slots := 0, locals := 25 }
theorem dX10_addRung_0 : decode cX10_addRung 0 = .ok (.aload_n 0, 1) := by decide +kernel
theorem dX10_addRung_1 : decode cX10_addRung 1 = .ok (.iconst 0, 1) := by decide +kernel
theorem dX10_addRung_2 : decode cX10_addRung 2 = .ok (.putfield 33, 3) := by decide +kernel
theorem dX10_addRung_5 : decode cX10_addRung 5 = .ok (.iload_n 1, 1) := by decide +kernel
theorem dX10_addRung_6 : decode cX10_addRung 6 = .ok (.i2l, 1) := by decide +kernel
theorem dX10_addRung_7 : decode cX10_addRung 7 = .ok (.lconst 0, 1) := by decide +kernel
theorem dX10_addRung_8 : decode cX10_addRung 8 = .ok (.lconst 1, 1) := by decide +kernel
theorem dX10_addRung_9 : decode cX10_addRung 9 = .ok (.invokestatic 39, 3) := by decide +kernel
theorem dX10_addRung_12 : decode cX10_addRung 12 = .ok (.ifCond .ne 9, 3) := by decide +kernel
theorem dX10_addRung_15 : decode cX10_addRung 15 = .ok (.aload_n 0, 1) := by decide +kernel
theorem dX10_addRung_16 : decode cX10_addRung 16 = .ok (.iconst 1, 1) := by decide +kernel
theorem dX10_addRung_17 : decode cX10_addRung 17 = .ok (.invokevirtual 43, 3) := by decide +kernel
theorem dX10_addRung_20 : decode cX10_addRung 20 = .ok (.ireturn, 1) := by decide +kernel
theorem dX10_addRung_21 : decode cX10_addRung 21 = .ok (.iload_n 2, 1) := by decide +kernel
theorem dX10_addRung_22 : decode cX10_addRung 22 = .ok (.i2l, 1) := by decide +kernel
theorem dX10_addRung_23 : decode cX10_addRung 23 = .ok (.lconst 1, 1) := by decide +kernel
theorem dX10_addRung_24 : decode cX10_addRung 24 = .ok (.ldc2_w 57, 3) := by decide +kernel
theorem dX10_addRung_27 : decode cX10_addRung 27 = .ok (.invokestatic 39, 3) := by decide +kernel
theorem dX10_addRung_30 : decode cX10_addRung 30 = .ok (.ifCond .eq 30, 3) := by decide +kernel
theorem dX10_addRung_33 : decode cX10_addRung 33 = .ok (.aload_n 0, 1) := by decide +kernel
theorem dX10_addRung_34 : decode cX10_addRung 34 = .ok (.getfield 16, 3) := by decide +kernel
theorem dX10_addRung_37 : decode cX10_addRung 37 = .ok (.iload_n 1, 1) := by decide +kernel
theorem dX10_addRung_38 : decode cX10_addRung 38 = .ok (.iaload, 1) := by decide +kernel
theorem dX10_addRung_39 : decode cX10_addRung 39 = .ok (.ifCond .le 27, 3) := by decide +kernel
theorem dX10_addRung_42 : decode cX10_addRung 42 = .ok (.iload_n 2, 1) := by decide +kernel
theorem dX10_addRung_43 : decode cX10_addRung 43 = .ok (.aload_n 0, 1) := by decide +kernel
theorem dX10_addRung_44 : decode cX10_addRung 44 = .ok (.iload_n 1, 1) := by decide +kernel
theorem dX10_addRung_45 : decode cX10_addRung 45 = .ok (.aload_n 0, 1) := by decide +kernel
theorem dX10_addRung_46 : decode cX10_addRung 46 = .ok (.getfield 16, 3) := by decide +kernel
theorem dX10_addRung_49 : decode cX10_addRung 49 = .ok (.iload_n 1, 1) := by decide +kernel
theorem dX10_addRung_50 : decode cX10_addRung 50 = .ok (.iaload, 1) := by decide +kernel
theorem dX10_addRung_51 : decode cX10_addRung 51 = .ok (.iconst 1, 1) := by decide +kernel
theorem dX10_addRung_52 : decode cX10_addRung 52 = .ok (.isub, 1) := by decide +kernel
theorem dX10_addRung_53 : decode cX10_addRung 53 = .ok (.i2l, 1) := by decide +kernel
theorem dX10_addRung_54 : decode cX10_addRung 54 = .ok (.invokevirtual 59, 3) := by decide +kernel
theorem dX10_addRung_57 : decode cX10_addRung 57 = .ok (.if_icmp .gt 9, 3) := by decide +kernel
theorem dX10_addRung_60 : decode cX10_addRung 60 = .ok (.aload_n 0, 1) := by decide +kernel
theorem dX10_addRung_61 : decode cX10_addRung 61 = .ok (.iconst 2, 1) := by decide +kernel
theorem dX10_addRung_62 : decode cX10_addRung 62 = .ok (.invokevirtual 43, 3) := by decide +kernel
theorem dX10_addRung_65 : decode cX10_addRung 65 = .ok (.ireturn, 1) := by decide +kernel
theorem dX10_addRung_66 : decode cX10_addRung 66 = .ok (.aload_n 0, 1) := by decide +kernel
theorem dX10_addRung_67 : decode cX10_addRung 67 = .ok (.getfield 53, 3) := by decide +kernel
theorem dX10_addRung_70 : decode cX10_addRung 70 = .ok (.ifCond .ne 22, 3) := by decide +kernel
theorem dX10_addRung_73 : decode cX10_addRung 73 = .ok (.aload_n 0, 1) := by decide +kernel
theorem dX10_addRung_74 : decode cX10_addRung 74 = .ok (.getfield 16, 3) := by decide +kernel
theorem dX10_addRung_77 : decode cX10_addRung 77 = .ok (.iload_n 1, 1) := by decide +kernel
theorem dX10_addRung_78 : decode cX10_addRung 78 = .ok (.iaload, 1) := by decide +kernel
theorem dX10_addRung_79 : decode cX10_addRung 79 = .ok (.iload_n 1, 1) := by decide +kernel
theorem dX10_addRung_80 : decode cX10_addRung 80 = .ok (.ifCond .ne 8, 3) := by decide +kernel
theorem dX10_addRung_83 : decode cX10_addRung 83 = .ok (.bipush 6, 2) := by decide +kernel
theorem dX10_addRung_85 : decode cX10_addRung 85 = .ok (.goto 4, 3) := by decide +kernel
theorem dX10_addRung_88 : decode cX10_addRung 88 = .ok (.iconst 3, 1) := by decide +kernel
theorem dX10_addRung_89 : decode cX10_addRung 89 = .ok (.if_icmp .ne 9, 3) := by decide +kernel
theorem dX10_addRung_92 : decode cX10_addRung 92 = .ok (.aload_n 0, 1) := by decide +kernel
theorem dX10_addRung_93 : decode cX10_addRung 93 = .ok (.iconst 3, 1) := by decide +kernel
theorem dX10_addRung_94 : decode cX10_addRung 94 = .ok (.invokevirtual 43, 3) := by decide +kernel
theorem dX10_addRung_97 : decode cX10_addRung 97 = .ok (.ireturn, 1) := by decide +kernel
theorem dX10_addRung_98 : decode cX10_addRung 98 = .ok (.aload_n 0, 1) := by decide +kernel
theorem dX10_addRung_99 : decode cX10_addRung 99 = .ok (.getfield 13, 3) := by decide +kernel
theorem dX10_addRung_102 : decode cX10_addRung 102 = .ok (.bipush 6, 2) := by decide +kernel
theorem dX10_addRung_104 : decode cX10_addRung 104 = .ok (.iload_n 1, 1) := by decide +kernel
theorem dX10_addRung_105 : decode cX10_addRung 105 = .ok (.imul, 1) := by decide +kernel
theorem dX10_addRung_106 : decode cX10_addRung 106 = .ok (.aload_n 0, 1) := by decide +kernel
theorem dX10_addRung_107 : decode cX10_addRung 107 = .ok (.getfield 16, 3) := by decide +kernel
theorem dX10_addRung_110 : decode cX10_addRung 110 = .ok (.iload_n 1, 1) := by decide +kernel
theorem dX10_addRung_111 : decode cX10_addRung 111 = .ok (.iaload, 1) := by decide +kernel
theorem dX10_addRung_112 : decode cX10_addRung 112 = .ok (.iadd, 1) := by decide +kernel
theorem dX10_addRung_113 : decode cX10_addRung 113 = .ok (.iload_n 2, 1) := by decide +kernel
theorem dX10_addRung_114 : decode cX10_addRung 114 = .ok (.iastore, 1) := by decide +kernel
theorem dX10_addRung_115 : decode cX10_addRung 115 = .ok (.aload_n 0, 1) := by decide +kernel
theorem dX10_addRung_116 : decode cX10_addRung 116 = .ok (.getfield 16, 3) := by decide +kernel
theorem dX10_addRung_119 : decode cX10_addRung 119 = .ok (.iload_n 1, 1) := by decide +kernel
theorem dX10_addRung_120 : decode cX10_addRung 120 = .ok (.dup2, 1) := by decide +kernel
theorem dX10_addRung_121 : decode cX10_addRung 121 = .ok (.iaload, 1) := by decide +kernel
theorem dX10_addRung_122 : decode cX10_addRung 122 = .ok (.iconst 1, 1) := by decide +kernel
theorem dX10_addRung_123 : decode cX10_addRung 123 = .ok (.iadd, 1) := by decide +kernel
theorem dX10_addRung_124 : decode cX10_addRung 124 = .ok (.iastore, 1) := by decide +kernel
theorem dX10_addRung_125 : decode cX10_addRung 125 = .ok (.aload_n 0, 1) := by decide +kernel
theorem dX10_addRung_126 : decode cX10_addRung 126 = .ok (.getfield 16, 3) := by decide +kernel
theorem dX10_addRung_129 : decode cX10_addRung 129 = .ok (.iload_n 1, 1) := by decide +kernel
theorem dX10_addRung_130 : decode cX10_addRung 130 = .ok (.iaload, 1) := by decide +kernel
theorem dX10_addRung_131 : decode cX10_addRung 131 = .ok (.iconst 1, 1) := by decide +kernel
theorem dX10_addRung_132 : decode cX10_addRung 132 = .ok (.isub, 1) := by decide +kernel
theorem dX10_addRung_133 : decode cX10_addRung 133 = .ok (.ireturn, 1) := by decide +kernel
theorem gf_X10_16 {p : Program} {l : Launch} {e : Env} {R : Room} {s : State} {m : MethodId} {args : Array Value} {below : List Frame} {meth : Method} {c : Code} {H : Heap} {locs : List Loc} {cells slots : Nat} {Q : State → Prop} {cc : ByteArray} {pc nL : Nat} {ls : Array Slot} {rest : List Value} {D : va_G} {ws : va_W} {tys : List (ClassId × FieldType)} (S : CallFix p m c cc nL s args TB RX10) (hK : va_K D vwCl tys s) (hP : va_P D vwCl ws H) (q0 : Nat) {a : Nat} {fs : List Value} (he : ws[q0]? = some (a, .inr (10, fs))) {v : Value} (hv : fs[2]? = some v) (hdg : decode cc pc = .ok (.getfield 16, 3))
    (kk : W p l e R s m args below meth c H locs cells slots Q (F0 m (pc + 3) ls (v :: rest))) : W p l e R s m args below meth c H locs cells slots Q (F0 m pc ls (.ref a :: rest)) :=
  va_get (D := D) (ci := 10) (C := RX10) (T := TX10) (N := 10) S.1 S.2.1 S.2.2.2.2 iwX10 S.2.2.2.1 hK hP q0 he rfl 2 (by decide) (S.2.2.2.2 _ tb963) (fun _ h9 => h9) hv hdg kk
theorem cw_X10_59 {R : Room} {s : State} {args : Array Value} (hts : ∀ w ∈ TB, w.before args s = true) (hR : rm_X10_rate.frames + 1 ≤ R.frames ∧ 8 + (4 + 11) + rm_X10_rate.locals ≤ R.locals) : CallW R s args RX10 RX10 59 yX10_rate cX10_rate 4 (some .int) (Cond.code yX10_rate cX10_rate 4 (some .int) :: TB) rm_X10_rate 0 0 2 := cwV 2 hts (gV tb1018 tb1019 tb21 tb57 tb1020) rfl rfl rfl ⟨rfl, by decide, by decide, by decide +kernel⟩ hR
def f_X10_addRung_b89  (v0_thrown : Int32) (r1 r2 : Nat → Int32) (l1 l2 s0 s1 : Int32) : Option (Int32 × Int32 × (Nat → Int32) × (Nat → Int32)) :=
  if s0 = s1 then
    bnd2 (f_X10_fails 3) fun (y10 : Int32) (y11 : Int32) =>
    some (y10, y11, r1, r2)
  else
    grd (vin l1 2) <|
    grd (vin ((6 * l1) + (r1 l1.toNatClampNeg)) 12) <|
    bnd (upd r2 ((6 * l1) + (r1 l1.toNatClampNeg)).toNatClampNeg l2) fun (u4 : Nat → Int32) =>
    grd (vin l1 2) <|
    bnd ((r1 l1.toNatClampNeg) + 1) fun (y6 : Int32) =>
    grd (vin l1 2) <|
    bnd (upd r1 l1.toNatClampNeg y6) fun (u8 : Nat → Int32) =>
    grd (vin l1 2) <|
    some ((u8 l1.toNatClampNeg) - 1, v0_thrown, u8, u4)
def f_X10_addRung_b66 (v0_has : Int32) (v0_thrown : Int32) (r1 r2 : Nat → Int32) (l1 l2 : Int32) : Option (Int32 × Int32 × (Nat → Int32) × (Nat → Int32)) :=
  if v0_has = 0 then
    grd (vin l1 2) <|
    if l1 = 0 then
      f_X10_addRung_b89 v0_thrown r1 r2 l1 l2 (r1 l1.toNatClampNeg) 6
    else
      f_X10_addRung_b89 v0_thrown r1 r2 l1 l2 (r1 l1.toNatClampNeg) 3
  else
    bnd2 (f_X10_fails 3) fun (y2 : Int32) (y3 : Int32) =>
    some (y2, y3, r1, r2)
def f_X10_addRung (v0_has : Int32) (r1 r2 : Nat → Int32) (p0 p1 : Int32) : Option (Int32 × Int32 × (Nat → Int32) × (Nat → Int32)) :=
  if (f_X10_in p0.toInt64 0 1) = 0 then
    bnd2 (f_X10_fails 1) fun (y12 : Int32) (y13 : Int32) =>
    some (y12, y13, r1, r2)
  else
    if (f_X10_in p1.toInt64 1 50000) = 0 then
      bnd2 (f_X10_fails 2) fun (y3 : Int32) (y4 : Int32) =>
      some (y3, y4, r1, r2)
    else
      grd (vin p0 2) <|
      if (r1 p0.toNatClampNeg) ≤ 0 then
        f_X10_addRung_b66 v0_has 0 r1 r2 p0 p1
      else
        grd (vin p0 2) <|
        obnd (f_X10_rate r2 p0 (((r1 p0.toNatClampNeg) - 1).toInt64)) fun (y8 : Int32) =>
        if y8 < p1 then
          f_X10_addRung_b66 v0_has 0 r1 r2 p0 p1
        else
          bnd2 (f_X10_fails 2) fun (y10 : Int32) (y11 : Int32) =>
          some (y10, y11, r1, r2)
set_option maxHeartbeats 4000000 in
set_option maxRecDepth 100000 in
theorem k_X10_addRung_b89 {p : Program} {l : Launch} {e : Env} {s : State} {m : MethodId} {args : Array Value} {below : List Frame} {meth : Method} {c : Code} {D : va_G} {cI cJ cC : ClassId} {h0 h1 h2 kthis_p kthis_lengths kthis_flows kthis_now kthis_trial : Nat} {v0_phases v0_has : Int32} {T : Int32 × Int32 × (Nat → Int32) × (Nat → Int32)}{A : Nat → Prop} (S : CallFix p m c cX10_addRung 3 s args TB RX10) (hr : meth.sig.returnType = (some .int)) (hlk : meth.locks = false) (hK : va_K D vwCl (ty3 cI cJ cC) s) (hA : ∀ q : Nat, s.heap.size ≤ q → A q) : ∀ (v0_thrown : Int32) (r1 r2 : Nat → Int32) (l1 l2 s0 s1 : Int32) (H : Heap) (locs : List Loc) (ls : Array Slot), f_X10_addRung_b89 v0_thrown r1 r2 l1 l2 s0 s1 = some T → va_P D vwCl [(h0, .inr (10, [.ref kthis_p, .ref h2, .ref h1, .ref kthis_lengths, .ref kthis_flows, .int v0_phases, .ref kthis_now, .ref kthis_trial, .int v0_has, .int v0_thrown])), (h1, .inl (cI, 2, .inl r1)), (h2, .inl (cI, 12, .inl r2))] H → va_D A [(h0, .inr (10, [.ref kthis_p, .ref h2, .ref h1, .ref kthis_lengths, .ref kthis_flows, .int v0_phases, .ref kthis_now, .ref kthis_trial, .int v0_has, .int v0_thrown])), (h1, .inl (cI, 2, .inl r1)), (h2, .inl (cI, 12, .inl r2))] → va_S A s.heap H locs → lv_has ls 3 [(0, .ref h0), (1, .int l1), (2, .int l2)] → W p l e rm_X10_addRung s m args below meth c H locs 0 0 (MQ below (QW (some (.int T.1)) D [(h0, .inr (10, [.ref kthis_p, .ref h2, .ref h1, .ref kthis_lengths, .ref kthis_flows, .int v0_phases, .ref kthis_now, .ref kthis_trial, .int v0_has, .int T.2.1])), (h1, .inl (cI, 2, .inl T.2.2.1)), (h2, .inl (cI, 12, .inl T.2.2.2))] A) args s 0 0 A) (F0 m 89 ls [.int s1, .int s0]) := by
  have hx := S.1
  have hb := S.2.1
  intro v0_thrown r1 r2 l1 l2 s0 s1 H locs ls h hP hD hS hl
  refine lv_icmp_ne (tgt := 98) hx hb dX10_addRung_89 (by decide) (fun c1 => ?_) (fun c1 => ?_)
  · have h := iteN c1 h
    refine lv_aload_n hx hb dX10_addRung_98 rfl (lv_at hl 0 rfl) ?_
    refine gf_X10_13 (v := .ref h2) S hK hP 0 rfl rfl dX10_addRung_99 ?_
    refine lv_bipush (v := 6) hx hb dX10_addRung_102 lb_6 ?_
    refine lv_iload_n hx hb dX10_addRung_104 rfl (lv_at hl 1 rfl) ?_
    refine lv_imul hx hb dX10_addRung_105 ?_
    refine lv_aload_n hx hb dX10_addRung_106 rfl (lv_at hl 0 rfl) ?_
    refine gf_X10_16 (v := .ref h1) S hK hP 0 rfl rfl dX10_addRung_107 ?_
    refine lv_iload_n hx hb dX10_addRung_110 rfl (lv_at hl 1 rfl) ?_
    obtain ⟨g2, h⟩ := grd_eq h
    refine aldI (k := l1.toNatClampNeg) (q0 := 1) S hK hP rfl (vin_in g2) rfl dX10_addRung_111 ?_
    refine lv_iadd hx hb dX10_addRung_112 ?_
    refine lv_iload_n hx hb dX10_addRung_113 rfl (lv_at hl 2 rfl) ?_
    obtain ⟨g3, h⟩ := grd_eq h
    refine astI (k := ((6 * l1) + (r1 l1.toNatClampNeg)).toNatClampNeg) (q0 := 2) S hK hP hD hS rfl (vin_in g3) rfl dX10_addRung_114 (fun H locs hP hD hS => ?_)
    have hP : va_P D vwCl [(h0, .inr (10, [.ref kthis_p, .ref h2, .ref h1, .ref kthis_lengths, .ref kthis_flows, .int v0_phases, .ref kthis_now, .ref kthis_trial, .int v0_has, .int v0_thrown])), (h1, .inl (cI, 2, .inl r1)), (h2, .inl (cI, 12, .inl (upd r2 ((6 * l1) + (r1 l1.toNatClampNeg)).toNatClampNeg l2)))] H := hP
    have hD : va_D A [(h0, .inr (10, [.ref kthis_p, .ref h2, .ref h1, .ref kthis_lengths, .ref kthis_flows, .int v0_phases, .ref kthis_now, .ref kthis_trial, .int v0_has, .int v0_thrown])), (h1, .inl (cI, 2, .inl r1)), (h2, .inl (cI, 12, .inl (upd r2 ((6 * l1) + (r1 l1.toNatClampNeg)).toNatClampNeg l2)))] := hD
    obtain ⟨u4, e_u4⟩ : ∃ z, z = upd r2 ((6 * l1) + (r1 l1.toNatClampNeg)).toNatClampNeg l2 := ⟨_, rfl⟩
    rw [← e_u4] at hP hD
    have h := bnd_eq e_u4.symm h
    refine lv_aload_n hx hb dX10_addRung_115 rfl (lv_at hl 0 rfl) ?_
    refine gf_X10_16 (v := .ref h1) S hK hP 0 rfl rfl dX10_addRung_116 ?_
    refine lv_iload_n hx hb dX10_addRung_119 rfl (lv_at hl 1 rfl) ?_
    refine lv_dup2_11 hx hb dX10_addRung_120 rfl rfl ?_
    obtain ⟨g5, h⟩ := grd_eq h
    refine aldI (k := l1.toNatClampNeg) (q0 := 1) S hK hP rfl (vin_in g5) rfl dX10_addRung_121 ?_
    refine lv_iconst (v := 1) hx hb dX10_addRung_122 li_1 ?_
    refine lv_iadd hx hb dX10_addRung_123 ?_
    refine lv_topi (fun y6 e_y6 => ?_)
    have h := bnd_eq e_y6.symm h
    obtain ⟨g7, h⟩ := grd_eq h
    refine astI (k := l1.toNatClampNeg) (q0 := 1) S hK hP hD hS rfl (vin_in g7) rfl dX10_addRung_124 (fun H locs hP hD hS => ?_)
    have hP : va_P D vwCl [(h0, .inr (10, [.ref kthis_p, .ref h2, .ref h1, .ref kthis_lengths, .ref kthis_flows, .int v0_phases, .ref kthis_now, .ref kthis_trial, .int v0_has, .int v0_thrown])), (h1, .inl (cI, 2, .inl (upd r1 l1.toNatClampNeg y6))), (h2, .inl (cI, 12, .inl u4))] H := hP
    have hD : va_D A [(h0, .inr (10, [.ref kthis_p, .ref h2, .ref h1, .ref kthis_lengths, .ref kthis_flows, .int v0_phases, .ref kthis_now, .ref kthis_trial, .int v0_has, .int v0_thrown])), (h1, .inl (cI, 2, .inl (upd r1 l1.toNatClampNeg y6))), (h2, .inl (cI, 12, .inl u4))] := hD
    obtain ⟨u8, e_u8⟩ : ∃ z, z = upd r1 l1.toNatClampNeg y6 := ⟨_, rfl⟩
    rw [← e_u8] at hP hD
    have h := bnd_eq e_u8.symm h
    refine lv_aload_n hx hb dX10_addRung_125 rfl (lv_at hl 0 rfl) ?_
    refine gf_X10_16 (v := .ref h1) S hK hP 0 rfl rfl dX10_addRung_126 ?_
    refine lv_iload_n hx hb dX10_addRung_129 rfl (lv_at hl 1 rfl) ?_
    obtain ⟨g9, h⟩ := grd_eq h
    refine aldI (k := l1.toNatClampNeg) (q0 := 1) S hK hP rfl (vin_in g9) rfl dX10_addRung_130 ?_
    refine lv_iconst (v := 1) hx hb dX10_addRung_131 li_1 ?_
    refine lv_isub hx hb dX10_addRung_132 ?_
    have h := Option.some.inj h
    subst h
    exact wRi S hr hlk (hP.sub [0, 1, 2] rfl) (hD.sub [0, 1, 2] (by decide) rfl) hS dX10_addRung_133
  · have h := iteP c1 h
    refine lv_aload_n hx hb dX10_addRung_92 rfl (lv_at hl 0 rfl) ?_
    refine lv_iconst (v := 3) hx hb dX10_addRung_93 li_3 ?_
    obtain ⟨y10, y11, e_y10⟩ : ∃ a0 a1, f_X10_fails 3 = (a0, a1) := ⟨_, _, rfl⟩
    have h := bnd2_eq e_y10 h
    refine wrV (pc1 := 97) (rest := []) (st1 := [.int y10]) (wr := [(h1, .inl (cI, 2, .inl r1)), (h2, .inl (cI, 12, .inl r2))]) S (c_X10_fails l D cI cJ cC h0 kthis_p h2 h1 kthis_lengths kthis_flows kthis_now kthis_trial v0_phases v0_has v0_thrown H.size 3 (y10, y11) e_y10) (cw_X10_43 S.2.2.2.2 ⟨Nat.le_of_ble_eq_true rfl, Nat.le_of_ble_eq_true rfl⟩) hK hP hD hS hA [0] [1, 2] rfl rfl rfl (by decide) (by decide) (by decide) rfl rfl rfl rfl hl.1 rfl (Nat.le_of_ble_eq_true rfl) ⟨Nat.zero_le _, Nat.zero_le _⟩ rfl rfl dX10_addRung_94 (fun H locs hP hD hS => ?_)
    have hP : va_P D vwCl [(h1, .inl (cI, 2, .inl r1)), (h2, .inl (cI, 12, .inl r2)), (h0, .inr (10, [.ref kthis_p, .ref h2, .ref h1, .ref kthis_lengths, .ref kthis_flows, .int v0_phases, .ref kthis_now, .ref kthis_trial, .int v0_has, .int y11]))] H := hP
    have hD : va_D A [(h1, .inl (cI, 2, .inl r1)), (h2, .inl (cI, 12, .inl r2)), (h0, .inr (10, [.ref kthis_p, .ref h2, .ref h1, .ref kthis_lengths, .ref kthis_flows, .int v0_phases, .ref kthis_now, .ref kthis_trial, .int v0_has, .int y11]))] := hD
    have h := Option.some.inj h
    subst h
    exact wRi S hr hlk (hP.sub [2, 0, 1] rfl) (hD.sub [2, 0, 1] (by decide) rfl) hS dX10_addRung_97
set_option maxHeartbeats 4000000 in
set_option maxRecDepth 100000 in
theorem k_X10_addRung_b66 {p : Program} {l : Launch} {e : Env} {s : State} {m : MethodId} {args : Array Value} {below : List Frame} {meth : Method} {c : Code} {D : va_G} {cI cJ cC : ClassId} {h0 h1 h2 kthis_p kthis_lengths kthis_flows kthis_now kthis_trial : Nat} {v0_phases v0_has : Int32} {T : Int32 × Int32 × (Nat → Int32) × (Nat → Int32)}{A : Nat → Prop} (S : CallFix p m c cX10_addRung 3 s args TB RX10) (hr : meth.sig.returnType = (some .int)) (hlk : meth.locks = false) (hK : va_K D vwCl (ty3 cI cJ cC) s) (hA : ∀ q : Nat, s.heap.size ≤ q → A q) : ∀ (v0_thrown : Int32) (r1 r2 : Nat → Int32) (l1 l2 : Int32) (H : Heap) (locs : List Loc) (ls : Array Slot), f_X10_addRung_b66 v0_has v0_thrown r1 r2 l1 l2 = some T → va_P D vwCl [(h0, .inr (10, [.ref kthis_p, .ref h2, .ref h1, .ref kthis_lengths, .ref kthis_flows, .int v0_phases, .ref kthis_now, .ref kthis_trial, .int v0_has, .int v0_thrown])), (h1, .inl (cI, 2, .inl r1)), (h2, .inl (cI, 12, .inl r2))] H → va_D A [(h0, .inr (10, [.ref kthis_p, .ref h2, .ref h1, .ref kthis_lengths, .ref kthis_flows, .int v0_phases, .ref kthis_now, .ref kthis_trial, .int v0_has, .int v0_thrown])), (h1, .inl (cI, 2, .inl r1)), (h2, .inl (cI, 12, .inl r2))] → va_S A s.heap H locs → lv_has ls 3 [(0, .ref h0), (1, .int l1), (2, .int l2)] → W p l e rm_X10_addRung s m args below meth c H locs 0 0 (MQ below (QW (some (.int T.1)) D [(h0, .inr (10, [.ref kthis_p, .ref h2, .ref h1, .ref kthis_lengths, .ref kthis_flows, .int v0_phases, .ref kthis_now, .ref kthis_trial, .int v0_has, .int T.2.1])), (h1, .inl (cI, 2, .inl T.2.2.1)), (h2, .inl (cI, 12, .inl T.2.2.2))] A) args s 0 0 A) (F0 m 66 ls []) := by
  have hx := S.1
  have hb := S.2.1
  intro v0_thrown r1 r2 l1 l2 H locs ls h hP hD hS hl
  refine lv_aload_n hx hb dX10_addRung_66 rfl (lv_at hl 0 rfl) ?_
  refine gf_X10_53 (v := .int v0_has) S hK hP 0 rfl rfl dX10_addRung_67 ?_
  refine lv_if_ne (tgt := 92) hx hb dX10_addRung_70 (by decide) (fun c1 => ?_) (fun c1 => ?_)
  · have h := iteN c1 h
    refine lv_aload_n hx hb dX10_addRung_92 rfl (lv_at hl 0 rfl) ?_
    refine lv_iconst (v := 3) hx hb dX10_addRung_93 li_3 ?_
    obtain ⟨y2, y3, e_y2⟩ : ∃ a0 a1, f_X10_fails 3 = (a0, a1) := ⟨_, _, rfl⟩
    have h := bnd2_eq e_y2 h
    refine wrV (pc1 := 97) (rest := []) (st1 := [.int y2]) (wr := [(h1, .inl (cI, 2, .inl r1)), (h2, .inl (cI, 12, .inl r2))]) S (c_X10_fails l D cI cJ cC h0 kthis_p h2 h1 kthis_lengths kthis_flows kthis_now kthis_trial v0_phases v0_has v0_thrown H.size 3 (y2, y3) e_y2) (cw_X10_43 S.2.2.2.2 ⟨Nat.le_of_ble_eq_true rfl, Nat.le_of_ble_eq_true rfl⟩) hK hP hD hS hA [0] [1, 2] rfl rfl rfl (by decide) (by decide) (by decide) rfl rfl rfl rfl hl.1 rfl (Nat.le_of_ble_eq_true rfl) ⟨Nat.zero_le _, Nat.zero_le _⟩ rfl rfl dX10_addRung_94 (fun H locs hP hD hS => ?_)
    have hP : va_P D vwCl [(h1, .inl (cI, 2, .inl r1)), (h2, .inl (cI, 12, .inl r2)), (h0, .inr (10, [.ref kthis_p, .ref h2, .ref h1, .ref kthis_lengths, .ref kthis_flows, .int v0_phases, .ref kthis_now, .ref kthis_trial, .int v0_has, .int y3]))] H := hP
    have hD : va_D A [(h1, .inl (cI, 2, .inl r1)), (h2, .inl (cI, 12, .inl r2)), (h0, .inr (10, [.ref kthis_p, .ref h2, .ref h1, .ref kthis_lengths, .ref kthis_flows, .int v0_phases, .ref kthis_now, .ref kthis_trial, .int v0_has, .int y3]))] := hD
    have h := Option.some.inj h
    subst h
    exact wRi S hr hlk (hP.sub [2, 0, 1] rfl) (hD.sub [2, 0, 1] (by decide) rfl) hS dX10_addRung_97
  · have h := iteP c1 h
    refine lv_aload_n hx hb dX10_addRung_73 rfl (lv_at hl 0 rfl) ?_
    refine gf_X10_16 (v := .ref h1) S hK hP 0 rfl rfl dX10_addRung_74 ?_
    refine lv_iload_n hx hb dX10_addRung_77 rfl (lv_at hl 1 rfl) ?_
    obtain ⟨g4, h⟩ := grd_eq h
    refine aldI (k := l1.toNatClampNeg) (q0 := 1) S hK hP rfl (vin_in g4) rfl dX10_addRung_78 ?_
    refine lv_iload_n hx hb dX10_addRung_79 rfl (lv_at hl 1 rfl) ?_
    refine lv_if_ne (tgt := 88) hx hb dX10_addRung_80 (by decide) (fun c5 => ?_) (fun c5 => ?_)
    · have h := iteN c5 h
      refine lv_iconst (v := 3) hx hb dX10_addRung_88 li_3 ?_
      exact k_X10_addRung_b89 S hr hlk hK hA v0_thrown r1 r2 l1 l2 (r1 l1.toNatClampNeg) 3 _ _ _ h (hP.sub [0, 1, 2] rfl) (hD.sub [0, 1, 2] (by decide) rfl) hS (lv_sub hl [0, 1, 2] rfl)
    · have h := iteP c5 h
      refine lv_bipush (v := 6) hx hb dX10_addRung_83 lb_6 ?_
      refine lv_goto (tgt := 89) hx hb dX10_addRung_85 (by decide) ?_
      exact k_X10_addRung_b89 S hr hlk hK hA v0_thrown r1 r2 l1 l2 (r1 l1.toNatClampNeg) 6 _ _ _ h (hP.sub [0, 1, 2] rfl) (hD.sub [0, 1, 2] (by decide) rfl) hS (lv_sub hl [0, 1, 2] rfl)
set_option maxHeartbeats 4000000 in
set_option maxRecDepth 100000 in
theorem c_X10_addRung (l : Launch) (D : va_G) (cI cJ cC : ClassId) (h0 h1 h2 kthis_p kthis_lengths kthis_flows kthis_now kthis_trial : Nat) (v0_phases v0_has v0_thrown : Int32) (r1 r2 : Nat → Int32) (sz : Nat) (p0 p1 : Int32) (T : Int32 × Int32 × (Nat → Int32) × (Nat → Int32)) (h : f_X10_addRung v0_has r1 r2 p0 p1 = some T) : Met l yX10_addRung (Cond.code yX10_addRung cX10_addRung 3 (some .int) :: TB) rm_X10_addRung (PreW D cI cJ cC [(h0, .inr (10, [.ref kthis_p, .ref h2, .ref h1, .ref kthis_lengths, .ref kthis_flows, .int v0_phases, .ref kthis_now, .ref kthis_trial, .int v0_has, .int v0_thrown])), (h1, .inl (cI, 2, .inl r1)), (h2, .inl (cI, 12, .inl r2))] sz [.ref h0, .int p0, .int p1]) (QW (some (.int T.1)) D [(h0, .inr (10, [.ref kthis_p, .ref h2, .ref h1, .ref kthis_lengths, .ref kthis_flows, .int v0_phases, .ref kthis_now, .ref kthis_trial, .int v0_has, .int T.2.1])), (h1, .inl (cI, 2, .inl T.2.2.1)), (h2, .inl (cI, 12, .inl T.2.2.2))] (va_A [(h0, .inr (10, [.ref kthis_p, .ref h2, .ref h1, .ref kthis_lengths, .ref kthis_flows, .int v0_phases, .ref kthis_now, .ref kthis_trial, .int v0_has, .int v0_thrown])), (h1, .inl (cI, 2, .inl r1)), (h2, .inl (cI, 12, .inl r2))] sz)) 0 0 (va_A [(h0, .inr (10, [.ref kthis_p, .ref h2, .ref h1, .ref kthis_lengths, .ref kthis_flows, .int v0_phases, .ref kthis_now, .ref kthis_trial, .int v0_has, .int v0_thrown])), (h1, .inl (cI, 2, .inl r1)), (h2, .inl (cI, 12, .inl r2))] sz) := by
  refine metW (own := RX10) (by decide) rfl (Nat.le_of_ble_eq_true rfl) ?_
  intro p e s m below meth c S hr hlk hP hK A hAe hD hA hS ls hl
  clear hAe
  have hx := S.1
  have hb := S.2.1
  have hl : lv_has ls 3 [(0, .ref h0), (1, .int p0), (2, .int p1)] := hl
  refine lv_aload_n hx hb dX10_addRung_0 rfl (lv_at hl 0 rfl) ?_
  refine lv_iconst (v := 0) hx hb dX10_addRung_1 li_0 ?_
  refine pf_X10_33 (v := .int 0) S hK hP hD hS 0 rfl (Nat.le_of_ble_eq_true rfl) rfl dX10_addRung_2 (fun H locs hP hD hS => ?_)
  have hP : va_P D vwCl [(h0, .inr (10, [.ref kthis_p, .ref h2, .ref h1, .ref kthis_lengths, .ref kthis_flows, .int v0_phases, .ref kthis_now, .ref kthis_trial, .int v0_has, .int 0])), (h1, .inl (cI, 2, .inl r1)), (h2, .inl (cI, 12, .inl r2))] H := hP
  have hD : va_D A [(h0, .inr (10, [.ref kthis_p, .ref h2, .ref h1, .ref kthis_lengths, .ref kthis_flows, .int v0_phases, .ref kthis_now, .ref kthis_trial, .int v0_has, .int 0])), (h1, .inl (cI, 2, .inl r1)), (h2, .inl (cI, 12, .inl r2))] := hD
  refine lv_iload_n hx hb dX10_addRung_5 rfl (lv_at hl 1 rfl) ?_
  refine lv_i2l hx hb dX10_addRung_6 rfl ?_
  refine lv_lconst (v := 0) hx hb dX10_addRung_7 rfl ?_
  refine lv_lconst (v := 1) hx hb dX10_addRung_8 rfl ?_
  refine rdS (pc1 := 12) (rest := []) (st1 := [.int (f_X10_in p0.toInt64 0 1)]) S (c_X10_in l D cI cJ cC  p0.toInt64 0 1 _ rfl) (cw_X10_39 S.2.2.2.2 ⟨Nat.le_of_ble_eq_true rfl, Nat.le_of_ble_eq_true rfl⟩) hK (hP.sub [] rfl) rfl hl.1 rfl (Nat.le_of_ble_eq_true rfl) ⟨Nat.zero_le _, Nat.zero_le _⟩ rfl rfl dX10_addRung_9 ?_
  refine lv_if_ne (tgt := 21) hx hb dX10_addRung_12 (by decide) (fun c1 => ?_) (fun c1 => ?_)
  · have h := iteN c1 h
    refine lv_iload_n hx hb dX10_addRung_21 rfl (lv_at hl 2 rfl) ?_
    refine lv_i2l hx hb dX10_addRung_22 rfl ?_
    refine lv_lconst (v := 1) hx hb dX10_addRung_23 rfl ?_
    refine lv_ldc2 (v := 50000) hx hb S.2.2.2.1 (S.2.2.2.2 _ tb1017) dX10_addRung_24 ?_
    refine rdS (pc1 := 30) (rest := []) (st1 := [.int (f_X10_in p1.toInt64 1 50000)]) S (c_X10_in l D cI cJ cC  p1.toInt64 1 50000 _ rfl) (cw_X10_39 S.2.2.2.2 ⟨Nat.le_of_ble_eq_true rfl, Nat.le_of_ble_eq_true rfl⟩) hK (hP.sub [] rfl) rfl hl.1 rfl (Nat.le_of_ble_eq_true rfl) ⟨Nat.zero_le _, Nat.zero_le _⟩ rfl rfl dX10_addRung_27 ?_
    refine lv_if_eq (tgt := 60) hx hb dX10_addRung_30 (by decide) (fun c2 => ?_) (fun c2 => ?_)
    · have h := iteP c2 h
      refine lv_aload_n hx hb dX10_addRung_60 rfl (lv_at hl 0 rfl) ?_
      refine lv_iconst (v := 2) hx hb dX10_addRung_61 li_2 ?_
      obtain ⟨y3, y4, e_y3⟩ : ∃ a0 a1, f_X10_fails 2 = (a0, a1) := ⟨_, _, rfl⟩
      have h := bnd2_eq e_y3 h
      refine wrV (pc1 := 65) (rest := []) (st1 := [.int y3]) (wr := [(h1, .inl (cI, 2, .inl r1)), (h2, .inl (cI, 12, .inl r2))]) S (c_X10_fails l D cI cJ cC h0 kthis_p h2 h1 kthis_lengths kthis_flows kthis_now kthis_trial v0_phases v0_has 0 H.size 2 (y3, y4) e_y3) (cw_X10_43 S.2.2.2.2 ⟨Nat.le_of_ble_eq_true rfl, Nat.le_of_ble_eq_true rfl⟩) hK hP hD hS hA [0] [1, 2] rfl rfl rfl (by decide) (by decide) (by decide) rfl rfl rfl rfl hl.1 rfl (Nat.le_of_ble_eq_true rfl) ⟨Nat.zero_le _, Nat.zero_le _⟩ rfl rfl dX10_addRung_62 (fun H locs hP hD hS => ?_)
      have hP : va_P D vwCl [(h1, .inl (cI, 2, .inl r1)), (h2, .inl (cI, 12, .inl r2)), (h0, .inr (10, [.ref kthis_p, .ref h2, .ref h1, .ref kthis_lengths, .ref kthis_flows, .int v0_phases, .ref kthis_now, .ref kthis_trial, .int v0_has, .int y4]))] H := hP
      have hD : va_D A [(h1, .inl (cI, 2, .inl r1)), (h2, .inl (cI, 12, .inl r2)), (h0, .inr (10, [.ref kthis_p, .ref h2, .ref h1, .ref kthis_lengths, .ref kthis_flows, .int v0_phases, .ref kthis_now, .ref kthis_trial, .int v0_has, .int y4]))] := hD
      have h := Option.some.inj h
      subst h
      exact wRi S hr hlk (hP.sub [2, 0, 1] rfl) (hD.sub [2, 0, 1] (by decide) rfl) hS dX10_addRung_65
    · have h := iteN c2 h
      refine lv_aload_n hx hb dX10_addRung_33 rfl (lv_at hl 0 rfl) ?_
      refine gf_X10_16 (v := .ref h1) S hK hP 0 rfl rfl dX10_addRung_34 ?_
      refine lv_iload_n hx hb dX10_addRung_37 rfl (lv_at hl 1 rfl) ?_
      obtain ⟨g5, h⟩ := grd_eq h
      refine aldI (k := p0.toNatClampNeg) (q0 := 1) S hK hP rfl (vin_in g5) rfl dX10_addRung_38 ?_
      refine lv_if_le (tgt := 66) hx hb dX10_addRung_39 (by decide) (fun c6 => ?_) (fun c6 => ?_)
      · have h := iteP c6 h
        exact k_X10_addRung_b66 S hr hlk hK hA 0 r1 r2 p0 p1 _ _ _ h (hP.sub [0, 1, 2] rfl) (hD.sub [0, 1, 2] (by decide) rfl) hS (lv_sub hl [0, 1, 2] rfl)
      · have h := iteN c6 h
        refine lv_iload_n hx hb dX10_addRung_42 rfl (lv_at hl 2 rfl) ?_
        refine lv_aload_n hx hb dX10_addRung_43 rfl (lv_at hl 0 rfl) ?_
        refine lv_iload_n hx hb dX10_addRung_44 rfl (lv_at hl 1 rfl) ?_
        refine lv_aload_n hx hb dX10_addRung_45 rfl (lv_at hl 0 rfl) ?_
        refine gf_X10_16 (v := .ref h1) S hK hP 0 rfl rfl dX10_addRung_46 ?_
        refine lv_iload_n hx hb dX10_addRung_49 rfl (lv_at hl 1 rfl) ?_
        obtain ⟨g7, h⟩ := grd_eq h
        refine aldI (k := p0.toNatClampNeg) (q0 := 1) S hK hP rfl (vin_in g7) rfl dX10_addRung_50 ?_
        refine lv_iconst (v := 1) hx hb dX10_addRung_51 li_1 ?_
        refine lv_isub hx hb dX10_addRung_52 ?_
        refine lv_i2l hx hb dX10_addRung_53 rfl ?_
        obtain ⟨y8, e_y8, h⟩ := obnd_eq h
        refine rdV (pc1 := 57) (rest := [.int p1]) (st1 := [.int y8, .int p1]) S (c_X10_rate l D cI cJ cC h0 h2 kthis_p h1 kthis_lengths kthis_flows kthis_now kthis_trial v0_phases v0_has 0 r2 p0 (((r1 p0.toNatClampNeg) - 1).toInt64) y8 e_y8) (cw_X10_59 S.2.2.2.2 ⟨Nat.le_of_ble_eq_true rfl, Nat.le_of_ble_eq_true rfl⟩) hK (hP.sub [0, 2] rfl) rfl rfl rfl rfl hl.1 rfl (Nat.le_of_ble_eq_true rfl) ⟨Nat.zero_le _, Nat.zero_le _⟩ rfl rfl dX10_addRung_54 ?_
        refine lv_icmp_gt (tgt := 66) hx hb dX10_addRung_57 (by decide) (fun c9 => ?_) (fun c9 => ?_)
        · have h := iteP c9 h
          exact k_X10_addRung_b66 S hr hlk hK hA 0 r1 r2 p0 p1 _ _ _ h (hP.sub [0, 1, 2] rfl) (hD.sub [0, 1, 2] (by decide) rfl) hS (lv_sub hl [0, 1, 2] rfl)
        · have h := iteN c9 h
          refine lv_aload_n hx hb dX10_addRung_60 rfl (lv_at hl 0 rfl) ?_
          refine lv_iconst (v := 2) hx hb dX10_addRung_61 li_2 ?_
          obtain ⟨y10, y11, e_y10⟩ : ∃ a0 a1, f_X10_fails 2 = (a0, a1) := ⟨_, _, rfl⟩
          have h := bnd2_eq e_y10 h
          refine wrV (pc1 := 65) (rest := []) (st1 := [.int y10]) (wr := [(h1, .inl (cI, 2, .inl r1)), (h2, .inl (cI, 12, .inl r2))]) S (c_X10_fails l D cI cJ cC h0 kthis_p h2 h1 kthis_lengths kthis_flows kthis_now kthis_trial v0_phases v0_has 0 H.size 2 (y10, y11) e_y10) (cw_X10_43 S.2.2.2.2 ⟨Nat.le_of_ble_eq_true rfl, Nat.le_of_ble_eq_true rfl⟩) hK hP hD hS hA [0] [1, 2] rfl rfl rfl (by decide) (by decide) (by decide) rfl rfl rfl rfl hl.1 rfl (Nat.le_of_ble_eq_true rfl) ⟨Nat.zero_le _, Nat.zero_le _⟩ rfl rfl dX10_addRung_62 (fun H locs hP hD hS => ?_)
          have hP : va_P D vwCl [(h1, .inl (cI, 2, .inl r1)), (h2, .inl (cI, 12, .inl r2)), (h0, .inr (10, [.ref kthis_p, .ref h2, .ref h1, .ref kthis_lengths, .ref kthis_flows, .int v0_phases, .ref kthis_now, .ref kthis_trial, .int v0_has, .int y11]))] H := hP
          have hD : va_D A [(h1, .inl (cI, 2, .inl r1)), (h2, .inl (cI, 12, .inl r2)), (h0, .inr (10, [.ref kthis_p, .ref h2, .ref h1, .ref kthis_lengths, .ref kthis_flows, .int v0_phases, .ref kthis_now, .ref kthis_trial, .int v0_has, .int y11]))] := hD
          have h := Option.some.inj h
          subst h
          exact wRi S hr hlk (hP.sub [2, 0, 1] rfl) (hD.sub [2, 0, 1] (by decide) rfl) hS dX10_addRung_65
  · have h := iteP c1 h
    refine lv_aload_n hx hb dX10_addRung_15 rfl (lv_at hl 0 rfl) ?_
    refine lv_iconst (v := 1) hx hb dX10_addRung_16 li_1 ?_
    obtain ⟨y12, y13, e_y12⟩ : ∃ a0 a1, f_X10_fails 1 = (a0, a1) := ⟨_, _, rfl⟩
    have h := bnd2_eq e_y12 h
    refine wrV (pc1 := 20) (rest := []) (st1 := [.int y12]) (wr := [(h1, .inl (cI, 2, .inl r1)), (h2, .inl (cI, 12, .inl r2))]) S (c_X10_fails l D cI cJ cC h0 kthis_p h2 h1 kthis_lengths kthis_flows kthis_now kthis_trial v0_phases v0_has 0 H.size 1 (y12, y13) e_y12) (cw_X10_43 S.2.2.2.2 ⟨Nat.le_of_ble_eq_true rfl, Nat.le_of_ble_eq_true rfl⟩) hK hP hD hS hA [0] [1, 2] rfl rfl rfl (by decide) (by decide) (by decide) rfl rfl rfl rfl hl.1 rfl (Nat.le_of_ble_eq_true rfl) ⟨Nat.zero_le _, Nat.zero_le _⟩ rfl rfl dX10_addRung_17 (fun H locs hP hD hS => ?_)
    have hP : va_P D vwCl [(h1, .inl (cI, 2, .inl r1)), (h2, .inl (cI, 12, .inl r2)), (h0, .inr (10, [.ref kthis_p, .ref h2, .ref h1, .ref kthis_lengths, .ref kthis_flows, .int v0_phases, .ref kthis_now, .ref kthis_trial, .int v0_has, .int y13]))] H := hP
    have hD : va_D A [(h1, .inl (cI, 2, .inl r1)), (h2, .inl (cI, 12, .inl r2)), (h0, .inr (10, [.ref kthis_p, .ref h2, .ref h1, .ref kthis_lengths, .ref kthis_flows, .int v0_phases, .ref kthis_now, .ref kthis_trial, .int v0_has, .int y13]))] := hD
    have h := Option.some.inj h
    subst h
    exact wRi S hr hlk (hP.sub [2, 0, 1] rfl) (hD.sub [2, 0, 1] (by decide) rfl) hS dX10_addRung_20
abbrev rm_X10_addPhase : Room := { frames := 1, cells := 0, slots := 0, locals := 25 }
theorem dX10_addPhase_0 : decode cX10_addPhase 0 = .ok (.aload_n 0, 1) := by decide +kernel
theorem dX10_addPhase_1 : decode cX10_addPhase 1 = .ok (.iconst 0, 1) := by decide +kernel
theorem dX10_addPhase_2 : decode cX10_addPhase 2 = .ok (.putfield 33, 3) := by decide +kernel
theorem dX10_addPhase_5 : decode cX10_addPhase 5 = .ok (.iload_n 1, 1) := by decide +kernel
theorem dX10_addPhase_6 : decode cX10_addPhase 6 = .ok (.i2l, 1) := by decide +kernel
theorem dX10_addPhase_7 : decode cX10_addPhase 7 = .ok (.lconst 1, 1) := by decide +kernel
theorem dX10_addPhase_8 : decode cX10_addPhase 8 = .ok (.ldc2_w 63, 3) := by decide +kernel
theorem dX10_addPhase_11 : decode cX10_addPhase 11 = .ok (.invokestatic 39, 3) := by decide +kernel
theorem dX10_addPhase_14 : decode cX10_addPhase 14 = .ok (.ifCond .eq 15, 3) := by decide +kernel
theorem dX10_addPhase_17 : decode cX10_addPhase 17 = .ok (.iload_n 2, 1) := by decide +kernel
theorem dX10_addPhase_18 : decode cX10_addPhase 18 = .ok (.i2l, 1) := by decide +kernel
theorem dX10_addPhase_19 : decode cX10_addPhase 19 = .ok (.lconst 0, 1) := by decide +kernel
theorem dX10_addPhase_20 : decode cX10_addPhase 20 = .ok (.ldc2_w 63, 3) := by decide +kernel
theorem dX10_addPhase_23 : decode cX10_addPhase 23 = .ok (.invokestatic 39, 3) := by decide +kernel
theorem dX10_addPhase_26 : decode cX10_addPhase 26 = .ok (.ifCond .ne 9, 3) := by decide +kernel
theorem dX10_addPhase_29 : decode cX10_addPhase 29 = .ok (.aload_n 0, 1) := by decide +kernel
theorem dX10_addPhase_30 : decode cX10_addPhase 30 = .ok (.iconst 1, 1) := by decide +kernel
theorem dX10_addPhase_31 : decode cX10_addPhase 31 = .ok (.invokevirtual 43, 3) := by decide +kernel
theorem dX10_addPhase_34 : decode cX10_addPhase 34 = .ok (.ireturn, 1) := by decide +kernel
theorem dX10_addPhase_35 : decode cX10_addPhase 35 = .ok (.aload_n 0, 1) := by decide +kernel
theorem dX10_addPhase_36 : decode cX10_addPhase 36 = .ok (.getfield 53, 3) := by decide +kernel
theorem dX10_addPhase_39 : decode cX10_addPhase 39 = .ok (.ifCond .ne 12, 3) := by decide +kernel
theorem dX10_addPhase_42 : decode cX10_addPhase 42 = .ok (.aload_n 0, 1) := by decide +kernel
theorem dX10_addPhase_43 : decode cX10_addPhase 43 = .ok (.getfield 65, 3) := by decide +kernel
theorem dX10_addPhase_46 : decode cX10_addPhase 46 = .ok (.bipush 20, 2) := by decide +kernel
theorem dX10_addPhase_48 : decode cX10_addPhase 48 = .ok (.if_icmp .ne 9, 3) := by decide +kernel
theorem dX10_addPhase_51 : decode cX10_addPhase 51 = .ok (.aload_n 0, 1) := by decide +kernel
theorem dX10_addPhase_52 : decode cX10_addPhase 52 = .ok (.iconst 2, 1) := by decide +kernel
theorem dX10_addPhase_53 : decode cX10_addPhase 53 = .ok (.invokevirtual 43, 3) := by decide +kernel
theorem dX10_addPhase_56 : decode cX10_addPhase 56 = .ok (.ireturn, 1) := by decide +kernel
theorem dX10_addPhase_57 : decode cX10_addPhase 57 = .ok (.aload_n 0, 1) := by decide +kernel
theorem dX10_addPhase_58 : decode cX10_addPhase 58 = .ok (.getfield 19, 3) := by decide +kernel
theorem dX10_addPhase_61 : decode cX10_addPhase 61 = .ok (.aload_n 0, 1) := by decide +kernel
theorem dX10_addPhase_62 : decode cX10_addPhase 62 = .ok (.getfield 65, 3) := by decide +kernel
theorem dX10_addPhase_65 : decode cX10_addPhase 65 = .ok (.iload_n 1, 1) := by decide +kernel
theorem dX10_addPhase_66 : decode cX10_addPhase 66 = .ok (.iastore, 1) := by decide +kernel
theorem dX10_addPhase_67 : decode cX10_addPhase 67 = .ok (.aload_n 0, 1) := by decide +kernel
theorem dX10_addPhase_68 : decode cX10_addPhase 68 = .ok (.getfield 22, 3) := by decide +kernel
theorem dX10_addPhase_71 : decode cX10_addPhase 71 = .ok (.aload_n 0, 1) := by decide +kernel
theorem dX10_addPhase_72 : decode cX10_addPhase 72 = .ok (.getfield 65, 3) := by decide +kernel
theorem dX10_addPhase_75 : decode cX10_addPhase 75 = .ok (.iload_n 2, 1) := by decide +kernel
theorem dX10_addPhase_76 : decode cX10_addPhase 76 = .ok (.iastore, 1) := by decide +kernel
theorem dX10_addPhase_77 : decode cX10_addPhase 77 = .ok (.aload_n 0, 1) := by decide +kernel
theorem dX10_addPhase_78 : decode cX10_addPhase 78 = .ok (.dup, 1) := by decide +kernel
theorem dX10_addPhase_79 : decode cX10_addPhase 79 = .ok (.getfield 65, 3) := by decide +kernel
theorem dX10_addPhase_82 : decode cX10_addPhase 82 = .ok (.iconst 1, 1) := by decide +kernel
theorem dX10_addPhase_83 : decode cX10_addPhase 83 = .ok (.iadd, 1) := by decide +kernel
theorem dX10_addPhase_84 : decode cX10_addPhase 84 = .ok (.putfield 65, 3) := by decide +kernel
theorem dX10_addPhase_87 : decode cX10_addPhase 87 = .ok (.aload_n 0, 1) := by decide +kernel
theorem dX10_addPhase_88 : decode cX10_addPhase 88 = .ok (.getfield 65, 3) := by decide +kernel
theorem dX10_addPhase_91 : decode cX10_addPhase 91 = .ok (.ireturn, 1) := by decide +kernel
theorem gf_X10_65 {p : Program} {l : Launch} {e : Env} {R : Room} {s : State} {m : MethodId} {args : Array Value} {below : List Frame} {meth : Method} {c : Code} {H : Heap} {locs : List Loc} {cells slots : Nat} {Q : State → Prop} {cc : ByteArray} {pc nL : Nat} {ls : Array Slot} {rest : List Value} {D : va_G} {ws : va_W} {tys : List (ClassId × FieldType)} (S : CallFix p m c cc nL s args TB RX10) (hK : va_K D vwCl tys s) (hP : va_P D vwCl ws H) (q0 : Nat) {a : Nat} {fs : List Value} (he : ws[q0]? = some (a, .inr (10, fs))) {v : Value} (hv : fs[5]? = some v) (hdg : decode cc pc = .ok (.getfield 65, 3))
    (kk : W p l e R s m args below meth c H locs cells slots Q (F0 m (pc + 3) ls (v :: rest))) : W p l e R s m args below meth c H locs cells slots Q (F0 m pc ls (.ref a :: rest)) :=
  va_get (D := D) (ci := 10) (C := RX10) (T := TX10) (N := 10) S.1 S.2.1 S.2.2.2.2 iwX10 S.2.2.2.1 hK hP q0 he rfl 5 (by decide) (S.2.2.2.2 _ tb966) (fun _ h9 => h9) hv hdg kk
theorem gf_X10_19 {p : Program} {l : Launch} {e : Env} {R : Room} {s : State} {m : MethodId} {args : Array Value} {below : List Frame} {meth : Method} {c : Code} {H : Heap} {locs : List Loc} {cells slots : Nat} {Q : State → Prop} {cc : ByteArray} {pc nL : Nat} {ls : Array Slot} {rest : List Value} {D : va_G} {ws : va_W} {tys : List (ClassId × FieldType)} (S : CallFix p m c cc nL s args TB RX10) (hK : va_K D vwCl tys s) (hP : va_P D vwCl ws H) (q0 : Nat) {a : Nat} {fs : List Value} (he : ws[q0]? = some (a, .inr (10, fs))) {v : Value} (hv : fs[3]? = some v) (hdg : decode cc pc = .ok (.getfield 19, 3))
    (kk : W p l e R s m args below meth c H locs cells slots Q (F0 m (pc + 3) ls (v :: rest))) : W p l e R s m args below meth c H locs cells slots Q (F0 m pc ls (.ref a :: rest)) :=
  va_get (D := D) (ci := 10) (C := RX10) (T := TX10) (N := 10) S.1 S.2.1 S.2.2.2.2 iwX10 S.2.2.2.1 hK hP q0 he rfl 3 (by decide) (S.2.2.2.2 _ tb964) (fun _ h9 => h9) hv hdg kk
theorem gf_X10_22 {p : Program} {l : Launch} {e : Env} {R : Room} {s : State} {m : MethodId} {args : Array Value} {below : List Frame} {meth : Method} {c : Code} {H : Heap} {locs : List Loc} {cells slots : Nat} {Q : State → Prop} {cc : ByteArray} {pc nL : Nat} {ls : Array Slot} {rest : List Value} {D : va_G} {ws : va_W} {tys : List (ClassId × FieldType)} (S : CallFix p m c cc nL s args TB RX10) (hK : va_K D vwCl tys s) (hP : va_P D vwCl ws H) (q0 : Nat) {a : Nat} {fs : List Value} (he : ws[q0]? = some (a, .inr (10, fs))) {v : Value} (hv : fs[4]? = some v) (hdg : decode cc pc = .ok (.getfield 22, 3))
    (kk : W p l e R s m args below meth c H locs cells slots Q (F0 m (pc + 3) ls (v :: rest))) : W p l e R s m args below meth c H locs cells slots Q (F0 m pc ls (.ref a :: rest)) :=
  va_get (D := D) (ci := 10) (C := RX10) (T := TX10) (N := 10) S.1 S.2.1 S.2.2.2.2 iwX10 S.2.2.2.1 hK hP q0 he rfl 4 (by decide) (S.2.2.2.2 _ tb965) (fun _ h9 => h9) hv hdg kk
theorem pf_X10_65 {p : Program} {l : Launch} {e : Env} {R : Room} {s : State} {m : MethodId} {args : Array Value} {below : List Frame} {meth : Method} {c : Code} {H H0 : Heap} {locs : List Loc} {cells slots : Nat} {Q : State → Prop} {cc : ByteArray} {pc nL : Nat} {ls : Array Slot} {rest : List Value} {D : va_G} {ws : va_W} {tys : List (ClassId × FieldType)} {A : Nat → Prop} {x9 : Int32} {v : Value} (S : CallFix p m c cc nL s args TB RX10) (hK : va_K D vwCl tys s) (hP : va_P D vwCl ws H) (hD : va_D A ws) (hS : va_S A H0 H locs) (q0 : Nat) {a : Nat} {fs : List Value} (he : ws[q0]? = some (a, .inr (10, fs))) (hle : 5 < fs.length) (hv9 : v = .int x9) (hdg : decode cc pc = .ok (.putfield 65, 3))
    (kk : ∀ (H1 : Heap) (locs1 : List Loc), va_P D vwCl (ws.set q0 (a, .inr (10, fs.set 5 v))) H1 → va_D A (ws.set q0 (a, .inr (10, fs.set 5 v))) → va_S A H0 H1 locs1 → W p l e R s m args below meth c H1 locs1 cells slots Q (F0 m (pc + 3) ls rest)) : W p l e R s m args below meth c H locs cells slots Q (F0 m pc ls (v :: .ref a :: rest)) := by
  subst hv9
  exact va_put (D := D) (ci := 10) (ty := .int) (C := RX10) (T := TX10) (N := 10) S.1 S.2.1 S.2.2.2.2 iwX10 tyX10 tyX10_ok nmX10 S.2.2.2.1 hK hP hD hS q0 he rfl 5 (by decide) (S.2.2.2.2 _ tb966) (fun _ h9 => h9) rfl (by decide +kernel) rfl rfl hle hdg kk
def f_X10_addPhase (v0_phases v0_has : Int32) (r1 r2 : Nat → Int32) (p0 p1 : Int32) : Option (Int32 × Int32 × Int32 × (Nat → Int32) × (Nat → Int32)) :=
  if (f_X10_in p0.toInt64 1 100000) = 0 then
    bnd2 (f_X10_fails 1) fun (y2 : Int32) (y3 : Int32) =>
    some (y2, v0_phases, y3, r1, r2)
  else
    if (f_X10_in p1.toInt64 0 100000) = 0 then
      bnd2 (f_X10_fails 1) fun (y15 : Int32) (y16 : Int32) =>
      some (y15, v0_phases, y16, r1, r2)
    else
      if v0_has = 0 then
        if v0_phases = 20 then
          bnd2 (f_X10_fails 2) fun (y13 : Int32) (y14 : Int32) =>
          some (y13, v0_phases, y14, r1, r2)
        else
          grd (vin v0_phases 20) <|
          bnd (upd r2 v0_phases.toNatClampNeg p0) fun (u10 : Nat → Int32) =>
          grd (vin v0_phases 20) <|
          bnd (upd r1 v0_phases.toNatClampNeg p1) fun (u12 : Nat → Int32) =>
          some (v0_phases + 1, v0_phases + 1, 0, u12, u10)
      else
        bnd2 (f_X10_fails 2) fun (y6 : Int32) (y7 : Int32) =>
        some (y6, v0_phases, y7, r1, r2)
set_option maxHeartbeats 4000000 in
set_option maxRecDepth 100000 in
theorem c_X10_addPhase (l : Launch) (D : va_G) (cI cJ cC : ClassId) (h0 h1 h2 kthis_p kthis_rates kthis_ladder kthis_now kthis_trial : Nat) (v0_phases v0_has v0_thrown : Int32) (r1 r2 : Nat → Int32) (sz : Nat) (p0 p1 : Int32) (T : Int32 × Int32 × Int32 × (Nat → Int32) × (Nat → Int32)) (h : f_X10_addPhase v0_phases v0_has r1 r2 p0 p1 = some T) : Met l yX10_addPhase (Cond.code yX10_addPhase cX10_addPhase 3 (some .int) :: TB) rm_X10_addPhase (PreW D cI cJ cC [(h0, .inr (10, [.ref kthis_p, .ref kthis_rates, .ref kthis_ladder, .ref h2, .ref h1, .int v0_phases, .ref kthis_now, .ref kthis_trial, .int v0_has, .int v0_thrown])), (h1, .inl (cI, 20, .inl r1)), (h2, .inl (cI, 20, .inl r2))] sz [.ref h0, .int p0, .int p1]) (QW (some (.int T.1)) D [(h0, .inr (10, [.ref kthis_p, .ref kthis_rates, .ref kthis_ladder, .ref h2, .ref h1, .int T.2.1, .ref kthis_now, .ref kthis_trial, .int v0_has, .int T.2.2.1])), (h1, .inl (cI, 20, .inl T.2.2.2.1)), (h2, .inl (cI, 20, .inl T.2.2.2.2))] (va_A [(h0, .inr (10, [.ref kthis_p, .ref kthis_rates, .ref kthis_ladder, .ref h2, .ref h1, .int v0_phases, .ref kthis_now, .ref kthis_trial, .int v0_has, .int v0_thrown])), (h1, .inl (cI, 20, .inl r1)), (h2, .inl (cI, 20, .inl r2))] sz)) 0 0 (va_A [(h0, .inr (10, [.ref kthis_p, .ref kthis_rates, .ref kthis_ladder, .ref h2, .ref h1, .int v0_phases, .ref kthis_now, .ref kthis_trial, .int v0_has, .int v0_thrown])), (h1, .inl (cI, 20, .inl r1)), (h2, .inl (cI, 20, .inl r2))] sz) := by
  refine metW (own := RX10) (by decide) rfl (Nat.le_of_ble_eq_true rfl) ?_
  intro p e s m below meth c S hr hlk hP hK A hAe hD hA hS ls hl
  clear hAe
  have hx := S.1
  have hb := S.2.1
  have hl : lv_has ls 3 [(0, .ref h0), (1, .int p0), (2, .int p1)] := hl
  refine lv_aload_n hx hb dX10_addPhase_0 rfl (lv_at hl 0 rfl) ?_
  refine lv_iconst (v := 0) hx hb dX10_addPhase_1 li_0 ?_
  refine pf_X10_33 (v := .int 0) S hK hP hD hS 0 rfl (Nat.le_of_ble_eq_true rfl) rfl dX10_addPhase_2 (fun H locs hP hD hS => ?_)
  have hP : va_P D vwCl [(h0, .inr (10, [.ref kthis_p, .ref kthis_rates, .ref kthis_ladder, .ref h2, .ref h1, .int v0_phases, .ref kthis_now, .ref kthis_trial, .int v0_has, .int 0])), (h1, .inl (cI, 20, .inl r1)), (h2, .inl (cI, 20, .inl r2))] H := hP
  have hD : va_D A [(h0, .inr (10, [.ref kthis_p, .ref kthis_rates, .ref kthis_ladder, .ref h2, .ref h1, .int v0_phases, .ref kthis_now, .ref kthis_trial, .int v0_has, .int 0])), (h1, .inl (cI, 20, .inl r1)), (h2, .inl (cI, 20, .inl r2))] := hD
  refine lv_iload_n hx hb dX10_addPhase_5 rfl (lv_at hl 1 rfl) ?_
  refine lv_i2l hx hb dX10_addPhase_6 rfl ?_
  refine lv_lconst (v := 1) hx hb dX10_addPhase_7 rfl ?_
  refine lv_ldc2 (v := 100000) hx hb S.2.2.2.1 (S.2.2.2.2 _ tb1025) dX10_addPhase_8 ?_
  refine rdS (pc1 := 14) (rest := []) (st1 := [.int (f_X10_in p0.toInt64 1 100000)]) S (c_X10_in l D cI cJ cC  p0.toInt64 1 100000 _ rfl) (cw_X10_39 S.2.2.2.2 ⟨Nat.le_of_ble_eq_true rfl, Nat.le_of_ble_eq_true rfl⟩) hK (hP.sub [] rfl) rfl hl.1 rfl (Nat.le_of_ble_eq_true rfl) ⟨Nat.zero_le _, Nat.zero_le _⟩ rfl rfl dX10_addPhase_11 ?_
  refine lv_if_eq (tgt := 29) hx hb dX10_addPhase_14 (by decide) (fun c1 => ?_) (fun c1 => ?_)
  · have h := iteP c1 h
    refine lv_aload_n hx hb dX10_addPhase_29 rfl (lv_at hl 0 rfl) ?_
    refine lv_iconst (v := 1) hx hb dX10_addPhase_30 li_1 ?_
    obtain ⟨y2, y3, e_y2⟩ : ∃ a0 a1, f_X10_fails 1 = (a0, a1) := ⟨_, _, rfl⟩
    have h := bnd2_eq e_y2 h
    refine wrV (pc1 := 34) (rest := []) (st1 := [.int y2]) (wr := [(h1, .inl (cI, 20, .inl r1)), (h2, .inl (cI, 20, .inl r2))]) S (c_X10_fails l D cI cJ cC h0 kthis_p kthis_rates kthis_ladder h2 h1 kthis_now kthis_trial v0_phases v0_has 0 H.size 1 (y2, y3) e_y2) (cw_X10_43 S.2.2.2.2 ⟨Nat.le_of_ble_eq_true rfl, Nat.le_of_ble_eq_true rfl⟩) hK hP hD hS hA [0] [1, 2] rfl rfl rfl (by decide) (by decide) (by decide) rfl rfl rfl rfl hl.1 rfl (Nat.le_of_ble_eq_true rfl) ⟨Nat.zero_le _, Nat.zero_le _⟩ rfl rfl dX10_addPhase_31 (fun H locs hP hD hS => ?_)
    have hP : va_P D vwCl [(h1, .inl (cI, 20, .inl r1)), (h2, .inl (cI, 20, .inl r2)), (h0, .inr (10, [.ref kthis_p, .ref kthis_rates, .ref kthis_ladder, .ref h2, .ref h1, .int v0_phases, .ref kthis_now, .ref kthis_trial, .int v0_has, .int y3]))] H := hP
    have hD : va_D A [(h1, .inl (cI, 20, .inl r1)), (h2, .inl (cI, 20, .inl r2)), (h0, .inr (10, [.ref kthis_p, .ref kthis_rates, .ref kthis_ladder, .ref h2, .ref h1, .int v0_phases, .ref kthis_now, .ref kthis_trial, .int v0_has, .int y3]))] := hD
    have h := Option.some.inj h
    subst h
    exact wRi S hr hlk (hP.sub [2, 0, 1] rfl) (hD.sub [2, 0, 1] (by decide) rfl) hS dX10_addPhase_34
  · have h := iteN c1 h
    refine lv_iload_n hx hb dX10_addPhase_17 rfl (lv_at hl 2 rfl) ?_
    refine lv_i2l hx hb dX10_addPhase_18 rfl ?_
    refine lv_lconst (v := 0) hx hb dX10_addPhase_19 rfl ?_
    refine lv_ldc2 (v := 100000) hx hb S.2.2.2.1 (S.2.2.2.2 _ tb1025) dX10_addPhase_20 ?_
    refine rdS (pc1 := 26) (rest := []) (st1 := [.int (f_X10_in p1.toInt64 0 100000)]) S (c_X10_in l D cI cJ cC  p1.toInt64 0 100000 _ rfl) (cw_X10_39 S.2.2.2.2 ⟨Nat.le_of_ble_eq_true rfl, Nat.le_of_ble_eq_true rfl⟩) hK (hP.sub [] rfl) rfl hl.1 rfl (Nat.le_of_ble_eq_true rfl) ⟨Nat.zero_le _, Nat.zero_le _⟩ rfl rfl dX10_addPhase_23 ?_
    refine lv_if_ne (tgt := 35) hx hb dX10_addPhase_26 (by decide) (fun c4 => ?_) (fun c4 => ?_)
    · have h := iteN c4 h
      refine lv_aload_n hx hb dX10_addPhase_35 rfl (lv_at hl 0 rfl) ?_
      refine gf_X10_53 (v := .int v0_has) S hK hP 0 rfl rfl dX10_addPhase_36 ?_
      refine lv_if_ne (tgt := 51) hx hb dX10_addPhase_39 (by decide) (fun c5 => ?_) (fun c5 => ?_)
      · have h := iteN c5 h
        refine lv_aload_n hx hb dX10_addPhase_51 rfl (lv_at hl 0 rfl) ?_
        refine lv_iconst (v := 2) hx hb dX10_addPhase_52 li_2 ?_
        obtain ⟨y6, y7, e_y6⟩ : ∃ a0 a1, f_X10_fails 2 = (a0, a1) := ⟨_, _, rfl⟩
        have h := bnd2_eq e_y6 h
        refine wrV (pc1 := 56) (rest := []) (st1 := [.int y6]) (wr := [(h1, .inl (cI, 20, .inl r1)), (h2, .inl (cI, 20, .inl r2))]) S (c_X10_fails l D cI cJ cC h0 kthis_p kthis_rates kthis_ladder h2 h1 kthis_now kthis_trial v0_phases v0_has 0 H.size 2 (y6, y7) e_y6) (cw_X10_43 S.2.2.2.2 ⟨Nat.le_of_ble_eq_true rfl, Nat.le_of_ble_eq_true rfl⟩) hK hP hD hS hA [0] [1, 2] rfl rfl rfl (by decide) (by decide) (by decide) rfl rfl rfl rfl hl.1 rfl (Nat.le_of_ble_eq_true rfl) ⟨Nat.zero_le _, Nat.zero_le _⟩ rfl rfl dX10_addPhase_53 (fun H locs hP hD hS => ?_)
        have hP : va_P D vwCl [(h1, .inl (cI, 20, .inl r1)), (h2, .inl (cI, 20, .inl r2)), (h0, .inr (10, [.ref kthis_p, .ref kthis_rates, .ref kthis_ladder, .ref h2, .ref h1, .int v0_phases, .ref kthis_now, .ref kthis_trial, .int v0_has, .int y7]))] H := hP
        have hD : va_D A [(h1, .inl (cI, 20, .inl r1)), (h2, .inl (cI, 20, .inl r2)), (h0, .inr (10, [.ref kthis_p, .ref kthis_rates, .ref kthis_ladder, .ref h2, .ref h1, .int v0_phases, .ref kthis_now, .ref kthis_trial, .int v0_has, .int y7]))] := hD
        have h := Option.some.inj h
        subst h
        exact wRi S hr hlk (hP.sub [2, 0, 1] rfl) (hD.sub [2, 0, 1] (by decide) rfl) hS dX10_addPhase_56
      · have h := iteP c5 h
        refine lv_aload_n hx hb dX10_addPhase_42 rfl (lv_at hl 0 rfl) ?_
        refine gf_X10_65 (v := .int v0_phases) S hK hP 0 rfl rfl dX10_addPhase_43 ?_
        refine lv_bipush (v := 20) hx hb dX10_addPhase_46 lb_20 ?_
        refine lv_icmp_ne (tgt := 57) hx hb dX10_addPhase_48 (by decide) (fun c8 => ?_) (fun c8 => ?_)
        · have h := iteN c8 h
          refine lv_aload_n hx hb dX10_addPhase_57 rfl (lv_at hl 0 rfl) ?_
          refine gf_X10_19 (v := .ref h2) S hK hP 0 rfl rfl dX10_addPhase_58 ?_
          refine lv_aload_n hx hb dX10_addPhase_61 rfl (lv_at hl 0 rfl) ?_
          refine gf_X10_65 (v := .int v0_phases) S hK hP 0 rfl rfl dX10_addPhase_62 ?_
          refine lv_iload_n hx hb dX10_addPhase_65 rfl (lv_at hl 1 rfl) ?_
          obtain ⟨g9, h⟩ := grd_eq h
          refine astI (k := v0_phases.toNatClampNeg) (q0 := 2) S hK hP hD hS rfl (vin_in g9) rfl dX10_addPhase_66 (fun H locs hP hD hS => ?_)
          have hP : va_P D vwCl [(h0, .inr (10, [.ref kthis_p, .ref kthis_rates, .ref kthis_ladder, .ref h2, .ref h1, .int v0_phases, .ref kthis_now, .ref kthis_trial, .int v0_has, .int 0])), (h1, .inl (cI, 20, .inl r1)), (h2, .inl (cI, 20, .inl (upd r2 v0_phases.toNatClampNeg p0)))] H := hP
          have hD : va_D A [(h0, .inr (10, [.ref kthis_p, .ref kthis_rates, .ref kthis_ladder, .ref h2, .ref h1, .int v0_phases, .ref kthis_now, .ref kthis_trial, .int v0_has, .int 0])), (h1, .inl (cI, 20, .inl r1)), (h2, .inl (cI, 20, .inl (upd r2 v0_phases.toNatClampNeg p0)))] := hD
          obtain ⟨u10, e_u10⟩ : ∃ z, z = upd r2 v0_phases.toNatClampNeg p0 := ⟨_, rfl⟩
          rw [← e_u10] at hP hD
          have h := bnd_eq e_u10.symm h
          refine lv_aload_n hx hb dX10_addPhase_67 rfl (lv_at hl 0 rfl) ?_
          refine gf_X10_22 (v := .ref h1) S hK hP 0 rfl rfl dX10_addPhase_68 ?_
          refine lv_aload_n hx hb dX10_addPhase_71 rfl (lv_at hl 0 rfl) ?_
          refine gf_X10_65 (v := .int v0_phases) S hK hP 0 rfl rfl dX10_addPhase_72 ?_
          refine lv_iload_n hx hb dX10_addPhase_75 rfl (lv_at hl 2 rfl) ?_
          obtain ⟨g11, h⟩ := grd_eq h
          refine astI (k := v0_phases.toNatClampNeg) (q0 := 1) S hK hP hD hS rfl (vin_in g11) rfl dX10_addPhase_76 (fun H locs hP hD hS => ?_)
          have hP : va_P D vwCl [(h0, .inr (10, [.ref kthis_p, .ref kthis_rates, .ref kthis_ladder, .ref h2, .ref h1, .int v0_phases, .ref kthis_now, .ref kthis_trial, .int v0_has, .int 0])), (h1, .inl (cI, 20, .inl (upd r1 v0_phases.toNatClampNeg p1))), (h2, .inl (cI, 20, .inl u10))] H := hP
          have hD : va_D A [(h0, .inr (10, [.ref kthis_p, .ref kthis_rates, .ref kthis_ladder, .ref h2, .ref h1, .int v0_phases, .ref kthis_now, .ref kthis_trial, .int v0_has, .int 0])), (h1, .inl (cI, 20, .inl (upd r1 v0_phases.toNatClampNeg p1))), (h2, .inl (cI, 20, .inl u10))] := hD
          obtain ⟨u12, e_u12⟩ : ∃ z, z = upd r1 v0_phases.toNatClampNeg p1 := ⟨_, rfl⟩
          rw [← e_u12] at hP hD
          have h := bnd_eq e_u12.symm h
          refine lv_aload_n hx hb dX10_addPhase_77 rfl (lv_at hl 0 rfl) ?_
          refine lv_dup hx hb dX10_addPhase_78 rfl ?_
          refine gf_X10_65 (v := .int v0_phases) S hK hP 0 rfl rfl dX10_addPhase_79 ?_
          refine lv_iconst (v := 1) hx hb dX10_addPhase_82 li_1 ?_
          refine lv_iadd hx hb dX10_addPhase_83 ?_
          refine pf_X10_65 (v := .int (v0_phases + 1)) S hK hP hD hS 0 rfl (Nat.le_of_ble_eq_true rfl) rfl dX10_addPhase_84 (fun H locs hP hD hS => ?_)
          have hP : va_P D vwCl [(h0, .inr (10, [.ref kthis_p, .ref kthis_rates, .ref kthis_ladder, .ref h2, .ref h1, .int (v0_phases + 1), .ref kthis_now, .ref kthis_trial, .int v0_has, .int 0])), (h1, .inl (cI, 20, .inl u12)), (h2, .inl (cI, 20, .inl u10))] H := hP
          have hD : va_D A [(h0, .inr (10, [.ref kthis_p, .ref kthis_rates, .ref kthis_ladder, .ref h2, .ref h1, .int (v0_phases + 1), .ref kthis_now, .ref kthis_trial, .int v0_has, .int 0])), (h1, .inl (cI, 20, .inl u12)), (h2, .inl (cI, 20, .inl u10))] := hD
          refine lv_aload_n hx hb dX10_addPhase_87 rfl (lv_at hl 0 rfl) ?_
          refine gf_X10_65 (v := .int (v0_phases + 1)) S hK hP 0 rfl rfl dX10_addPhase_88 ?_
          have h := Option.some.inj h
          subst h
          exact wRi S hr hlk (hP.sub [0, 1, 2] rfl) (hD.sub [0, 1, 2] (by decide) rfl) hS dX10_addPhase_91
        · have h := iteP c8 h
          refine lv_aload_n hx hb dX10_addPhase_51 rfl (lv_at hl 0 rfl) ?_
          refine lv_iconst (v := 2) hx hb dX10_addPhase_52 li_2 ?_
          obtain ⟨y13, y14, e_y13⟩ : ∃ a0 a1, f_X10_fails 2 = (a0, a1) := ⟨_, _, rfl⟩
          have h := bnd2_eq e_y13 h
          refine wrV (pc1 := 56) (rest := []) (st1 := [.int y13]) (wr := [(h1, .inl (cI, 20, .inl r1)), (h2, .inl (cI, 20, .inl r2))]) S (c_X10_fails l D cI cJ cC h0 kthis_p kthis_rates kthis_ladder h2 h1 kthis_now kthis_trial v0_phases v0_has 0 H.size 2 (y13, y14) e_y13) (cw_X10_43 S.2.2.2.2 ⟨Nat.le_of_ble_eq_true rfl, Nat.le_of_ble_eq_true rfl⟩) hK hP hD hS hA [0] [1, 2] rfl rfl rfl (by decide) (by decide) (by decide) rfl rfl rfl rfl hl.1 rfl (Nat.le_of_ble_eq_true rfl) ⟨Nat.zero_le _, Nat.zero_le _⟩ rfl rfl dX10_addPhase_53 (fun H locs hP hD hS => ?_)
          have hP : va_P D vwCl [(h1, .inl (cI, 20, .inl r1)), (h2, .inl (cI, 20, .inl r2)), (h0, .inr (10, [.ref kthis_p, .ref kthis_rates, .ref kthis_ladder, .ref h2, .ref h1, .int v0_phases, .ref kthis_now, .ref kthis_trial, .int v0_has, .int y14]))] H := hP
          have hD : va_D A [(h1, .inl (cI, 20, .inl r1)), (h2, .inl (cI, 20, .inl r2)), (h0, .inr (10, [.ref kthis_p, .ref kthis_rates, .ref kthis_ladder, .ref h2, .ref h1, .int v0_phases, .ref kthis_now, .ref kthis_trial, .int v0_has, .int y14]))] := hD
          have h := Option.some.inj h
          subst h
          exact wRi S hr hlk (hP.sub [2, 0, 1] rfl) (hD.sub [2, 0, 1] (by decide) rfl) hS dX10_addPhase_56
    · have h := iteP c4 h
      refine lv_aload_n hx hb dX10_addPhase_29 rfl (lv_at hl 0 rfl) ?_
      refine lv_iconst (v := 1) hx hb dX10_addPhase_30 li_1 ?_
      obtain ⟨y15, y16, e_y15⟩ : ∃ a0 a1, f_X10_fails 1 = (a0, a1) := ⟨_, _, rfl⟩
      have h := bnd2_eq e_y15 h
      refine wrV (pc1 := 34) (rest := []) (st1 := [.int y15]) (wr := [(h1, .inl (cI, 20, .inl r1)), (h2, .inl (cI, 20, .inl r2))]) S (c_X10_fails l D cI cJ cC h0 kthis_p kthis_rates kthis_ladder h2 h1 kthis_now kthis_trial v0_phases v0_has 0 H.size 1 (y15, y16) e_y15) (cw_X10_43 S.2.2.2.2 ⟨Nat.le_of_ble_eq_true rfl, Nat.le_of_ble_eq_true rfl⟩) hK hP hD hS hA [0] [1, 2] rfl rfl rfl (by decide) (by decide) (by decide) rfl rfl rfl rfl hl.1 rfl (Nat.le_of_ble_eq_true rfl) ⟨Nat.zero_le _, Nat.zero_le _⟩ rfl rfl dX10_addPhase_31 (fun H locs hP hD hS => ?_)
      have hP : va_P D vwCl [(h1, .inl (cI, 20, .inl r1)), (h2, .inl (cI, 20, .inl r2)), (h0, .inr (10, [.ref kthis_p, .ref kthis_rates, .ref kthis_ladder, .ref h2, .ref h1, .int v0_phases, .ref kthis_now, .ref kthis_trial, .int v0_has, .int y16]))] H := hP
      have hD : va_D A [(h1, .inl (cI, 20, .inl r1)), (h2, .inl (cI, 20, .inl r2)), (h0, .inr (10, [.ref kthis_p, .ref kthis_rates, .ref kthis_ladder, .ref h2, .ref h1, .int v0_phases, .ref kthis_now, .ref kthis_trial, .int v0_has, .int y16]))] := hD
      have h := Option.some.inj h
      subst h
      exact wRi S hr hlk (hP.sub [2, 0, 1] rfl) (hD.sub [2, 0, 1] (by decide) rfl) hS dX10_addPhase_34
abbrev rm_X10_clear : Room := { frames := 1, cells := 0, slots := 0, locals := 21 }
theorem dX10_clear_0 : decode cX10_clear 0 = .ok (.aload_n 0, 1) := by decide +kernel
theorem dX10_clear_1 : decode cX10_clear 1 = .ok (.iconst 0, 1) := by decide +kernel
theorem dX10_clear_2 : decode cX10_clear 2 = .ok (.putfield 33, 3) := by decide +kernel
theorem dX10_clear_5 : decode cX10_clear 5 = .ok (.aload_n 0, 1) := by decide +kernel
theorem dX10_clear_6 : decode cX10_clear 6 = .ok (.getfield 53, 3) := by decide +kernel
theorem dX10_clear_9 : decode cX10_clear 9 = .ok (.ifCond .eq 9, 3) := by decide +kernel
theorem dX10_clear_12 : decode cX10_clear 12 = .ok (.aload_n 0, 1) := by decide +kernel
theorem dX10_clear_13 : decode cX10_clear 13 = .ok (.iconst 1, 1) := by decide +kernel
theorem dX10_clear_14 : decode cX10_clear 14 = .ok (.invokevirtual 43, 3) := by decide +kernel
theorem dX10_clear_17 : decode cX10_clear 17 = .ok (.ireturn, 1) := by decide +kernel
theorem dX10_clear_18 : decode cX10_clear 18 = .ok (.aload_n 0, 1) := by decide +kernel
theorem dX10_clear_19 : decode cX10_clear 19 = .ok (.getfield 65, 3) := by decide +kernel
theorem dX10_clear_22 : decode cX10_clear 22 = .ok (.istore_n 1, 1) := by decide +kernel
theorem dX10_clear_23 : decode cX10_clear 23 = .ok (.aload_n 0, 1) := by decide +kernel
theorem dX10_clear_24 : decode cX10_clear 24 = .ok (.iconst 0, 1) := by decide +kernel
theorem dX10_clear_25 : decode cX10_clear 25 = .ok (.putfield 65, 3) := by decide +kernel
theorem dX10_clear_28 : decode cX10_clear 28 = .ok (.aload_n 0, 1) := by decide +kernel
theorem dX10_clear_29 : decode cX10_clear 29 = .ok (.getfield 16, 3) := by decide +kernel
theorem dX10_clear_32 : decode cX10_clear 32 = .ok (.iconst 0, 1) := by decide +kernel
theorem dX10_clear_33 : decode cX10_clear 33 = .ok (.iconst 0, 1) := by decide +kernel
theorem dX10_clear_34 : decode cX10_clear 34 = .ok (.iastore, 1) := by decide +kernel
theorem dX10_clear_35 : decode cX10_clear 35 = .ok (.aload_n 0, 1) := by decide +kernel
theorem dX10_clear_36 : decode cX10_clear 36 = .ok (.getfield 16, 3) := by decide +kernel
theorem dX10_clear_39 : decode cX10_clear 39 = .ok (.iconst 1, 1) := by decide +kernel
theorem dX10_clear_40 : decode cX10_clear 40 = .ok (.iconst 0, 1) := by decide +kernel
theorem dX10_clear_41 : decode cX10_clear 41 = .ok (.iastore, 1) := by decide +kernel
theorem dX10_clear_42 : decode cX10_clear 42 = .ok (.iload_n 1, 1) := by decide +kernel
theorem dX10_clear_43 : decode cX10_clear 43 = .ok (.ireturn, 1) := by decide +kernel
def f_X10_clear (v0_phases v0_has : Int32) (r1 : Nat → Int32) : Int32 × Int32 × Int32 × (Nat → Int32) :=
  if v0_has = 0 then
    bnd (upd r1 0 0) fun (u2 : Nat → Int32) =>
    bnd (upd u2 1 0) fun (u3 : Nat → Int32) =>
    (v0_phases, 0, 0, u3)
  else
    bnd2 (f_X10_fails 1) fun (y4 : Int32) (y5 : Int32) =>
    (y4, v0_phases, y5, r1)
set_option maxHeartbeats 4000000 in
set_option maxRecDepth 100000 in
theorem c_X10_clear (l : Launch) (D : va_G) (cI cJ cC : ClassId) (h0 h1 kthis_p kthis_rates kthis_lengths kthis_flows kthis_now kthis_trial : Nat) (v0_phases v0_has v0_thrown : Int32) (r1 : Nat → Int32) (sz : Nat)  (T : Int32 × Int32 × Int32 × (Nat → Int32)) (h : f_X10_clear v0_phases v0_has r1 = T) : Met l yX10_clear (Cond.code yX10_clear cX10_clear 2 (some .int) :: TB) rm_X10_clear (PreW D cI cJ cC [(h0, .inr (10, [.ref kthis_p, .ref kthis_rates, .ref h1, .ref kthis_lengths, .ref kthis_flows, .int v0_phases, .ref kthis_now, .ref kthis_trial, .int v0_has, .int v0_thrown])), (h1, .inl (cI, 2, .inl r1))] sz [.ref h0]) (QW (some (.int T.1)) D [(h0, .inr (10, [.ref kthis_p, .ref kthis_rates, .ref h1, .ref kthis_lengths, .ref kthis_flows, .int T.2.1, .ref kthis_now, .ref kthis_trial, .int v0_has, .int T.2.2.1])), (h1, .inl (cI, 2, .inl T.2.2.2))] (va_A [(h0, .inr (10, [.ref kthis_p, .ref kthis_rates, .ref h1, .ref kthis_lengths, .ref kthis_flows, .int v0_phases, .ref kthis_now, .ref kthis_trial, .int v0_has, .int v0_thrown])), (h1, .inl (cI, 2, .inl r1))] sz)) 0 0 (va_A [(h0, .inr (10, [.ref kthis_p, .ref kthis_rates, .ref h1, .ref kthis_lengths, .ref kthis_flows, .int v0_phases, .ref kthis_now, .ref kthis_trial, .int v0_has, .int v0_thrown])), (h1, .inl (cI, 2, .inl r1))] sz) := by
  refine metW (own := RX10) (by decide) rfl (Nat.le_of_ble_eq_true rfl) ?_
  intro p e s m below meth c S hr hlk hP hK A hAe hD hA hS ls hl
  clear hAe
  have hx := S.1
  have hb := S.2.1
  have hl : lv_has ls 2 [(0, .ref h0)] := hl
  refine lv_aload_n hx hb dX10_clear_0 rfl (lv_at hl 0 rfl) ?_
  refine lv_iconst (v := 0) hx hb dX10_clear_1 li_0 ?_
  refine pf_X10_33 (v := .int 0) S hK hP hD hS 0 rfl (Nat.le_of_ble_eq_true rfl) rfl dX10_clear_2 (fun H locs hP hD hS => ?_)
  have hP : va_P D vwCl [(h0, .inr (10, [.ref kthis_p, .ref kthis_rates, .ref h1, .ref kthis_lengths, .ref kthis_flows, .int v0_phases, .ref kthis_now, .ref kthis_trial, .int v0_has, .int 0])), (h1, .inl (cI, 2, .inl r1))] H := hP
  have hD : va_D A [(h0, .inr (10, [.ref kthis_p, .ref kthis_rates, .ref h1, .ref kthis_lengths, .ref kthis_flows, .int v0_phases, .ref kthis_now, .ref kthis_trial, .int v0_has, .int 0])), (h1, .inl (cI, 2, .inl r1))] := hD
  refine lv_aload_n hx hb dX10_clear_5 rfl (lv_at hl 0 rfl) ?_
  refine gf_X10_53 (v := .int v0_has) S hK hP 0 rfl rfl dX10_clear_6 ?_
  refine lv_if_eq (tgt := 18) hx hb dX10_clear_9 (by decide) (fun c1 => ?_) (fun c1 => ?_)
  · have h := iteP c1 h
    refine lv_aload_n hx hb dX10_clear_18 rfl (lv_at hl 0 rfl) ?_
    refine gf_X10_65 (v := .int v0_phases) S hK hP 0 rfl rfl dX10_clear_19 ?_
    refine lv_istore_n (lv' := [(1, .int v0_phases), (0, .ref h0)]) hx hb dX10_clear_22 rfl hl (by decide) rfl (fun ls hl => ?_)
    refine lv_aload_n hx hb dX10_clear_23 rfl (lv_at hl 1 rfl) ?_
    refine lv_iconst (v := 0) hx hb dX10_clear_24 li_0 ?_
    refine pf_X10_65 (v := .int 0) S hK hP hD hS 0 rfl (Nat.le_of_ble_eq_true rfl) rfl dX10_clear_25 (fun H locs hP hD hS => ?_)
    have hP : va_P D vwCl [(h0, .inr (10, [.ref kthis_p, .ref kthis_rates, .ref h1, .ref kthis_lengths, .ref kthis_flows, .int 0, .ref kthis_now, .ref kthis_trial, .int v0_has, .int 0])), (h1, .inl (cI, 2, .inl r1))] H := hP
    have hD : va_D A [(h0, .inr (10, [.ref kthis_p, .ref kthis_rates, .ref h1, .ref kthis_lengths, .ref kthis_flows, .int 0, .ref kthis_now, .ref kthis_trial, .int v0_has, .int 0])), (h1, .inl (cI, 2, .inl r1))] := hD
    refine lv_aload_n hx hb dX10_clear_28 rfl (lv_at hl 1 rfl) ?_
    refine gf_X10_16 (v := .ref h1) S hK hP 0 rfl rfl dX10_clear_29 ?_
    refine lv_iconst (v := 0) hx hb dX10_clear_32 li_0 ?_
    refine lv_iconst (v := 0) hx hb dX10_clear_33 li_0 ?_
    refine astI (k := 0) (q0 := 1) S hK hP hD hS rfl vl_0_2 tn_0 dX10_clear_34 (fun H locs hP hD hS => ?_)
    have hP : va_P D vwCl [(h0, .inr (10, [.ref kthis_p, .ref kthis_rates, .ref h1, .ref kthis_lengths, .ref kthis_flows, .int 0, .ref kthis_now, .ref kthis_trial, .int v0_has, .int 0])), (h1, .inl (cI, 2, .inl (upd r1 0 0)))] H := hP
    have hD : va_D A [(h0, .inr (10, [.ref kthis_p, .ref kthis_rates, .ref h1, .ref kthis_lengths, .ref kthis_flows, .int 0, .ref kthis_now, .ref kthis_trial, .int v0_has, .int 0])), (h1, .inl (cI, 2, .inl (upd r1 0 0)))] := hD
    obtain ⟨u2, e_u2⟩ : ∃ z, z = upd r1 0 0 := ⟨_, rfl⟩
    rw [← e_u2] at hP hD
    have h := bnd_eq e_u2.symm h
    refine lv_aload_n hx hb dX10_clear_35 rfl (lv_at hl 1 rfl) ?_
    refine gf_X10_16 (v := .ref h1) S hK hP 0 rfl rfl dX10_clear_36 ?_
    refine lv_iconst (v := 1) hx hb dX10_clear_39 li_1 ?_
    refine lv_iconst (v := 0) hx hb dX10_clear_40 li_0 ?_
    refine astI (k := 1) (q0 := 1) S hK hP hD hS rfl vl_1_2 tn_1 dX10_clear_41 (fun H locs hP hD hS => ?_)
    have hP : va_P D vwCl [(h0, .inr (10, [.ref kthis_p, .ref kthis_rates, .ref h1, .ref kthis_lengths, .ref kthis_flows, .int 0, .ref kthis_now, .ref kthis_trial, .int v0_has, .int 0])), (h1, .inl (cI, 2, .inl (upd u2 1 0)))] H := hP
    have hD : va_D A [(h0, .inr (10, [.ref kthis_p, .ref kthis_rates, .ref h1, .ref kthis_lengths, .ref kthis_flows, .int 0, .ref kthis_now, .ref kthis_trial, .int v0_has, .int 0])), (h1, .inl (cI, 2, .inl (upd u2 1 0)))] := hD
    obtain ⟨u3, e_u3⟩ : ∃ z, z = upd u2 1 0 := ⟨_, rfl⟩
    rw [← e_u3] at hP hD
    have h := bnd_eq e_u3.symm h
    refine lv_iload_n hx hb dX10_clear_42 rfl (lv_at hl 0 rfl) ?_
    subst h
    exact wRi S hr hlk (hP.sub [0, 1] rfl) (hD.sub [0, 1] (by decide) rfl) hS dX10_clear_43
  · have h := iteN c1 h
    refine lv_aload_n hx hb dX10_clear_12 rfl (lv_at hl 0 rfl) ?_
    refine lv_iconst (v := 1) hx hb dX10_clear_13 li_1 ?_
    obtain ⟨y4, y5, e_y4⟩ : ∃ a0 a1, f_X10_fails 1 = (a0, a1) := ⟨_, _, rfl⟩
    have h := bnd2_eq e_y4 h
    refine wrV (pc1 := 17) (rest := []) (st1 := [.int y4]) (wr := [(h1, .inl (cI, 2, .inl r1))]) S (c_X10_fails l D cI cJ cC h0 kthis_p kthis_rates h1 kthis_lengths kthis_flows kthis_now kthis_trial v0_phases v0_has 0 H.size 1 (y4, y5) e_y4) (cw_X10_43 S.2.2.2.2 ⟨Nat.le_of_ble_eq_true rfl, Nat.le_of_ble_eq_true rfl⟩) hK hP hD hS hA [0] [1] rfl rfl rfl (by decide) (by decide) (by decide) rfl rfl rfl rfl hl.1 rfl (Nat.le_of_ble_eq_true rfl) ⟨Nat.zero_le _, Nat.zero_le _⟩ rfl rfl dX10_clear_14 (fun H locs hP hD hS => ?_)
    have hP : va_P D vwCl [(h1, .inl (cI, 2, .inl r1)), (h0, .inr (10, [.ref kthis_p, .ref kthis_rates, .ref h1, .ref kthis_lengths, .ref kthis_flows, .int v0_phases, .ref kthis_now, .ref kthis_trial, .int v0_has, .int y5]))] H := hP
    have hD : va_D A [(h1, .inl (cI, 2, .inl r1)), (h0, .inr (10, [.ref kthis_p, .ref kthis_rates, .ref h1, .ref kthis_lengths, .ref kthis_flows, .int v0_phases, .ref kthis_now, .ref kthis_trial, .int v0_has, .int y5]))] := hD
    subst h
    exact wRi S hr hlk (hP.sub [1, 0] rfl) (hD.sub [1, 0] (by decide) rfl) hS dX10_clear_17
abbrev rm_X10_flowAt : Room := { frames := 0, cells := 0, slots := 0, locals := 0 }
theorem dX10_flowAt_0 : decode cX10_flowAt 0 = .ok (.lconst 0, 1) := by decide +kernel
theorem dX10_flowAt_1 : decode cX10_flowAt 1 = .ok (.lstore_n 3, 1) := by decide +kernel
theorem dX10_flowAt_2 : decode cX10_flowAt 2 = .ok (.iconst 0, 1) := by decide +kernel
theorem dX10_flowAt_3 : decode cX10_flowAt 3 = .ok (.istore 5, 2) := by decide +kernel
theorem dX10_flowAt_5 : decode cX10_flowAt 5 = .ok (.iload 5, 2) := by decide +kernel
theorem dX10_flowAt_7 : decode cX10_flowAt 7 = .ok (.aload_n 0, 1) := by decide +kernel
theorem dX10_flowAt_8 : decode cX10_flowAt 8 = .ok (.getfield 65, 3) := by decide +kernel
theorem dX10_flowAt_11 : decode cX10_flowAt 11 = .ok (.if_icmp .ge 20, 3) := by decide +kernel
theorem dX10_flowAt_14 : decode cX10_flowAt 14 = .ok (.lload_n 3, 1) := by decide +kernel
theorem dX10_flowAt_15 : decode cX10_flowAt 15 = .ok (.aload_n 0, 1) := by decide +kernel
theorem dX10_flowAt_16 : decode cX10_flowAt 16 = .ok (.getfield 19, 3) := by decide +kernel
theorem dX10_flowAt_19 : decode cX10_flowAt 19 = .ok (.iload 5, 2) := by decide +kernel
theorem dX10_flowAt_21 : decode cX10_flowAt 21 = .ok (.iaload, 1) := by decide +kernel
theorem dX10_flowAt_22 : decode cX10_flowAt 22 = .ok (.i2l, 1) := by decide +kernel
theorem dX10_flowAt_23 : decode cX10_flowAt 23 = .ok (.ladd, 1) := by decide +kernel
theorem dX10_flowAt_24 : decode cX10_flowAt 24 = .ok (.lstore_n 3, 1) := by decide +kernel
theorem dX10_flowAt_25 : decode cX10_flowAt 25 = .ok (.iinc 5 1, 3) := by decide +kernel
theorem dX10_flowAt_28 : decode cX10_flowAt 28 = .ok (.goto (-23), 3) := by decide +kernel
theorem dX10_flowAt_31 : decode cX10_flowAt 31 = .ok (.lload_n 3, 1) := by decide +kernel
theorem dX10_flowAt_32 : decode cX10_flowAt 32 = .ok (.lconst 0, 1) := by decide +kernel
theorem dX10_flowAt_33 : decode cX10_flowAt 33 = .ok (.lcmp, 1) := by decide +kernel
theorem dX10_flowAt_34 : decode cX10_flowAt 34 = .ok (.ifCond .ne 7, 3) := by decide +kernel
theorem dX10_flowAt_37 : decode cX10_flowAt 37 = .ok (.lconst 0, 1) := by decide +kernel
theorem dX10_flowAt_38 : decode cX10_flowAt 38 = .ok (.goto 6, 3) := by decide +kernel
theorem dX10_flowAt_41 : decode cX10_flowAt 41 = .ok (.lload_n 1, 1) := by decide +kernel
theorem dX10_flowAt_42 : decode cX10_flowAt 42 = .ok (.lload_n 3, 1) := by decide +kernel
theorem dX10_flowAt_43 : decode cX10_flowAt 43 = .ok (.lrem, 1) := by decide +kernel
theorem dX10_flowAt_44 : decode cX10_flowAt 44 = .ok (.lstore 5, 2) := by decide +kernel
theorem dX10_flowAt_46 : decode cX10_flowAt 46 = .ok (.iconst 0, 1) := by decide +kernel
theorem dX10_flowAt_47 : decode cX10_flowAt 47 = .ok (.istore 7, 2) := by decide +kernel
theorem dX10_flowAt_49 : decode cX10_flowAt 49 = .ok (.iload 7, 2) := by decide +kernel
theorem dX10_flowAt_51 : decode cX10_flowAt 51 = .ok (.aload_n 0, 1) := by decide +kernel
theorem dX10_flowAt_52 : decode cX10_flowAt 52 = .ok (.getfield 65, 3) := by decide +kernel
theorem dX10_flowAt_55 : decode cX10_flowAt 55 = .ok (.if_icmp .ge 44, 3) := by decide +kernel
theorem dX10_flowAt_58 : decode cX10_flowAt 58 = .ok (.lload 5, 2) := by decide +kernel
theorem dX10_flowAt_60 : decode cX10_flowAt 60 = .ok (.aload_n 0, 1) := by decide +kernel
theorem dX10_flowAt_61 : decode cX10_flowAt 61 = .ok (.getfield 19, 3) := by decide +kernel
theorem dX10_flowAt_64 : decode cX10_flowAt 64 = .ok (.iload 7, 2) := by decide +kernel
theorem dX10_flowAt_66 : decode cX10_flowAt 66 = .ok (.iaload, 1) := by decide +kernel
theorem dX10_flowAt_67 : decode cX10_flowAt 67 = .ok (.i2l, 1) := by decide +kernel
theorem dX10_flowAt_68 : decode cX10_flowAt 68 = .ok (.lcmp, 1) := by decide +kernel
theorem dX10_flowAt_69 : decode cX10_flowAt 69 = .ok (.ifCond .ge 11, 3) := by decide +kernel
theorem dX10_flowAt_72 : decode cX10_flowAt 72 = .ok (.aload_n 0, 1) := by decide +kernel
theorem dX10_flowAt_73 : decode cX10_flowAt 73 = .ok (.getfield 22, 3) := by decide +kernel
theorem dX10_flowAt_76 : decode cX10_flowAt 76 = .ok (.iload 7, 2) := by decide +kernel
theorem dX10_flowAt_78 : decode cX10_flowAt 78 = .ok (.iaload, 1) := by decide +kernel
theorem dX10_flowAt_79 : decode cX10_flowAt 79 = .ok (.ireturn, 1) := by decide +kernel
theorem dX10_flowAt_80 : decode cX10_flowAt 80 = .ok (.lload 5, 2) := by decide +kernel
theorem dX10_flowAt_82 : decode cX10_flowAt 82 = .ok (.aload_n 0, 1) := by decide +kernel
theorem dX10_flowAt_83 : decode cX10_flowAt 83 = .ok (.getfield 19, 3) := by decide +kernel
theorem dX10_flowAt_86 : decode cX10_flowAt 86 = .ok (.iload 7, 2) := by decide +kernel
theorem dX10_flowAt_88 : decode cX10_flowAt 88 = .ok (.iaload, 1) := by decide +kernel
theorem dX10_flowAt_89 : decode cX10_flowAt 89 = .ok (.i2l, 1) := by decide +kernel
theorem dX10_flowAt_90 : decode cX10_flowAt 90 = .ok (.lsub, 1) := by decide +kernel
theorem dX10_flowAt_91 : decode cX10_flowAt 91 = .ok (.lstore 5, 2) := by decide +kernel
theorem dX10_flowAt_93 : decode cX10_flowAt 93 = .ok (.iinc 7 1, 3) := by decide +kernel
theorem dX10_flowAt_96 : decode cX10_flowAt 96 = .ok (.goto (-47), 3) := by decide +kernel
theorem dX10_flowAt_99 : decode cX10_flowAt 99 = .ok (.iconst 0, 1) := by decide +kernel
theorem dX10_flowAt_100 : decode cX10_flowAt 100 = .ok (.ireturn, 1) := by decide +kernel
def f_X10_flowAt_b49 (v0_phases : Int32) (r1 r2 : Nat → Int32) : Nat → Int64 → Int32 → Option Int32
  | 0, _, _ => none
  | n + 1, l5, l7 =>
    if v0_phases ≤ l7 then
      some 0
    else
      grd (vin l7 20) <|
      if ((r2 l7.toNatClampNeg).toInt64) ≤ l5 then
        grd (vin l7 20) <|
        bnd (l5 - ((r2 l7.toNatClampNeg).toInt64)) fun (z5 : Int64) =>
        f_X10_flowAt_b49 v0_phases r1 r2 n z5 (l7 + 1)
      else
        grd (vin l7 20) <|
        some (r1 l7.toNatClampNeg)
def f_X10_flowAt_b5 (v0_phases : Int32) (r1 r2 : Nat → Int32) : Nat → Int64 → Int64 → Int32 → Option Int32
  | 0, _, _, _ => none
  | n + 1, l1, l3, l5 =>
    if v0_phases ≤ l5 then
      if l3 = 0 then
        f_X10_flowAt_b49 v0_phases r1 r2 (((v0_phases.toInt - (0 : Int32).toInt).toNat) + 1) 0 0
      else
        grd (nz64 l3) <|
        f_X10_flowAt_b49 v0_phases r1 r2 (((v0_phases.toInt - (0 : Int32).toInt).toNat) + 1) (rm64 l1 l3) 0
    else
      grd (vin l5 20) <|
      bnd (l3 + ((r2 l5.toNatClampNeg).toInt64)) fun (z5 : Int64) =>
      f_X10_flowAt_b5 v0_phases r1 r2 n l1 z5 (l5 + 1)
def f_X10_flowAt (v0_phases : Int32) (r1 r2 : Nat → Int32) (p0 : Int64) : Option Int32 :=
  f_X10_flowAt_b5 v0_phases r1 r2 (((v0_phases.toInt - (0 : Int32).toInt).toNat) + 1) p0 0 0
set_option maxHeartbeats 4000000 in
set_option maxRecDepth 100000 in
theorem k_X10_flowAt_b49 {p : Program} {l : Launch} {e : Env} {s : State} {m : MethodId} {args : Array Value} {below : List Frame} {meth : Method} {c : Code} {D : va_G} {cI cJ cC : ClassId} {h0 h1 h2 kthis_p kthis_rates kthis_ladder kthis_now kthis_trial : Nat} {v0_phases v0_has v0_thrown : Int32} {r1 r2 : Nat → Int32} {t0 : Int32}(S : CallFix p m c cX10_flowAt 8 s args TB RX10) (hr : meth.sig.returnType = (some .int)) (hlk : meth.locks = false) (hK : va_K D vwCl (ty3 cI cJ cC) s) (hP : va_P D vwCl [(h0, .inr (10, [.ref kthis_p, .ref kthis_rates, .ref kthis_ladder, .ref h2, .ref h1, .int v0_phases, .ref kthis_now, .ref kthis_trial, .int v0_has, .int v0_thrown])), (h1, .inl (cI, 20, .inl r1)), (h2, .inl (cI, 20, .inl r2))] s.heap) : ∀ (n : Nat) (l5 : Int64) (l7 : Int32) (ls : Array Slot), (v0_phases.toInt - l7.toInt).toNat < n → f_X10_flowAt_b49 v0_phases r1 r2 n l5 l7 = some t0 → lv_has ls 8 [(0, .ref h0), (5, .long l5), (7, .int l7)] → W p l e rm_X10_flowAt s m args below meth c s.heap [] 0 0 (MQ below (QR (some (.int t0))) args s 0 0 free0) (F0 m 49 ls []) := by
  have hx := S.1
  have hb := S.2.1
  intro n
  induction n with
  | zero => intro l5 l7 ls  hmu; exact absurd hmu (Nat.not_lt_zero _)
  | succ n ih =>
    intro l5 l7 ls  hmu h hl
    refine lv_iload hx hb dX10_flowAt_49 (lv_at hl 2 rfl) ?_
    refine lv_aload_n hx hb dX10_flowAt_51 rfl (lv_at hl 0 rfl) ?_
    refine gf_X10_65 (v := .int v0_phases) S hK hP 0 rfl rfl dX10_flowAt_52 ?_
    refine lv_icmp_ge (tgt := 99) hx hb dX10_flowAt_55 (by decide) (fun c1 => ?_) (fun c1 => ?_)
    · have h := iteP c1 h
      refine lv_iconst (v := 0) hx hb dX10_flowAt_99 li_0 ?_
      have h := Option.some.inj h
      subst h
      exact rRi S hr hlk dX10_flowAt_100
    · have h := iteN c1 h
      refine lv_lload hx hb dX10_flowAt_58 (lv_at hl 1 rfl) ?_
      refine lv_aload_n hx hb dX10_flowAt_60 rfl (lv_at hl 0 rfl) ?_
      refine gf_X10_19 (v := .ref h2) S hK hP 0 rfl rfl dX10_flowAt_61 ?_
      refine lv_iload hx hb dX10_flowAt_64 (lv_at hl 2 rfl) ?_
      obtain ⟨g2, h⟩ := grd_eq h
      refine aldI (k := l7.toNatClampNeg) (q0 := 2) S hK hP rfl (vin_in g2) rfl dX10_flowAt_66 ?_
      refine lv_i2l hx hb dX10_flowAt_67 rfl ?_
      refine lc_ge (tgt := 80) hx hb dX10_flowAt_68 dX10_flowAt_69 (by decide) (fun c3 => ?_) (fun c3 => ?_)
      · have h := iteP c3 h
        refine lv_lload hx hb dX10_flowAt_80 (lv_at hl 1 rfl) ?_
        refine lv_aload_n hx hb dX10_flowAt_82 rfl (lv_at hl 0 rfl) ?_
        refine gf_X10_19 (v := .ref h2) S hK hP 0 rfl rfl dX10_flowAt_83 ?_
        refine lv_iload hx hb dX10_flowAt_86 (lv_at hl 2 rfl) ?_
        obtain ⟨g4, h⟩ := grd_eq h
        refine aldI (k := l7.toNatClampNeg) (q0 := 2) S hK hP rfl (vin_in g4) rfl dX10_flowAt_88 ?_
        refine lv_i2l hx hb dX10_flowAt_89 rfl ?_
        refine lv_lsub hx hb dX10_flowAt_90 ?_
        refine lv_topl (fun z5 e_z5 => ?_)
        have h := bnd_eq e_z5.symm h
        refine lv_lstore (lv' := [(5, .long z5), (0, .ref h0), (7, .int l7)]) hx hb dX10_flowAt_91 hl (by decide) rfl (fun ls hl => ?_)
        refine lv_iinc (v := l7 + 1) (lv' := [(7, .int (l7 + 1)), (5, .long z5), (0, .ref h0)]) hx hb dX10_flowAt_93 hl (k := 2) rfl rfl (by decide) rfl (fun ls hl => ?_)
        refine lv_goto (tgt := 49) hx hb dX10_flowAt_96 (by decide) ?_
        exact ih z5 (l7 + 1) _ (by first | exact mu_upA (by assumption) hmu | exact mu_upB (by assumption) hmu) h  (lv_sub hl [2, 1, 0] rfl)
      · have h := iteN c3 h
        refine lv_aload_n hx hb dX10_flowAt_72 rfl (lv_at hl 0 rfl) ?_
        refine gf_X10_22 (v := .ref h1) S hK hP 0 rfl rfl dX10_flowAt_73 ?_
        refine lv_iload hx hb dX10_flowAt_76 (lv_at hl 2 rfl) ?_
        obtain ⟨g6, h⟩ := grd_eq h
        refine aldI (k := l7.toNatClampNeg) (q0 := 1) S hK hP rfl (vin_in g6) rfl dX10_flowAt_78 ?_
        have h := Option.some.inj h
        subst h
        exact rRi S hr hlk dX10_flowAt_79
set_option maxHeartbeats 4000000 in
set_option maxRecDepth 100000 in
theorem k_X10_flowAt_b5 {p : Program} {l : Launch} {e : Env} {s : State} {m : MethodId} {args : Array Value} {below : List Frame} {meth : Method} {c : Code} {D : va_G} {cI cJ cC : ClassId} {h0 h1 h2 kthis_p kthis_rates kthis_ladder kthis_now kthis_trial : Nat} {v0_phases v0_has v0_thrown : Int32} {r1 r2 : Nat → Int32} {t0 : Int32}(S : CallFix p m c cX10_flowAt 8 s args TB RX10) (hr : meth.sig.returnType = (some .int)) (hlk : meth.locks = false) (hK : va_K D vwCl (ty3 cI cJ cC) s) (hP : va_P D vwCl [(h0, .inr (10, [.ref kthis_p, .ref kthis_rates, .ref kthis_ladder, .ref h2, .ref h1, .int v0_phases, .ref kthis_now, .ref kthis_trial, .int v0_has, .int v0_thrown])), (h1, .inl (cI, 20, .inl r1)), (h2, .inl (cI, 20, .inl r2))] s.heap) : ∀ (n : Nat) (l1 l3 : Int64) (l5 : Int32) (ls : Array Slot), (v0_phases.toInt - l5.toInt).toNat < n → f_X10_flowAt_b5 v0_phases r1 r2 n l1 l3 l5 = some t0 → lv_has ls 8 [(0, .ref h0), (1, .long l1), (3, .long l3), (5, .int l5)] → W p l e rm_X10_flowAt s m args below meth c s.heap [] 0 0 (MQ below (QR (some (.int t0))) args s 0 0 free0) (F0 m 5 ls []) := by
  have hx := S.1
  have hb := S.2.1
  intro n
  induction n with
  | zero => intro l1 l3 l5 ls  hmu; exact absurd hmu (Nat.not_lt_zero _)
  | succ n ih =>
    intro l1 l3 l5 ls  hmu h hl
    refine lv_iload hx hb dX10_flowAt_5 (lv_at hl 3 rfl) ?_
    refine lv_aload_n hx hb dX10_flowAt_7 rfl (lv_at hl 0 rfl) ?_
    refine gf_X10_65 (v := .int v0_phases) S hK hP 0 rfl rfl dX10_flowAt_8 ?_
    refine lv_icmp_ge (tgt := 31) hx hb dX10_flowAt_11 (by decide) (fun c1 => ?_) (fun c1 => ?_)
    · have h := iteP c1 h
      refine lv_lload_n hx hb dX10_flowAt_31 rfl (lv_at hl 2 rfl) ?_
      refine lv_lconst (v := 0) hx hb dX10_flowAt_32 rfl ?_
      refine lc_ne (tgt := 41) hx hb dX10_flowAt_33 dX10_flowAt_34 (by decide) (fun c2 => ?_) (fun c2 => ?_)
      · have h := iteN c2 h
        refine lv_lload_n hx hb dX10_flowAt_41 rfl (lv_at hl 1 rfl) ?_
        refine lv_lload_n hx hb dX10_flowAt_42 rfl (lv_at hl 2 rfl) ?_
        obtain ⟨g3, h⟩ := grd_eq h
        refine remw_l hx hb dX10_flowAt_43 (nz64_ne g3) ?_
        refine lv_lstore (lv' := [(5, .long (rm64 l1 l3)), (0, .ref h0), (1, .long l1), (3, .long l3)]) hx hb dX10_flowAt_44 hl (by decide) rfl (fun ls hl => ?_)
        refine lv_iconst (v := 0) hx hb dX10_flowAt_46 li_0 ?_
        refine lv_istore (lv' := [(7, .int 0), (5, .long (rm64 l1 l3)), (0, .ref h0), (1, .long l1), (3, .long l3)]) hx hb dX10_flowAt_47 hl (by decide) rfl (fun ls hl => ?_)
        exact k_X10_flowAt_b49 S hr hlk hK hP _ (rm64 l1 l3) 0 _ (Nat.lt_succ_self _) h  (lv_sub hl [2, 1, 0] rfl)
      · have h := iteP c2 h
        refine lv_lconst (v := 0) hx hb dX10_flowAt_37 rfl ?_
        refine lv_goto (tgt := 44) hx hb dX10_flowAt_38 (by decide) ?_
        refine lv_lstore (lv' := [(5, .long 0), (0, .ref h0), (1, .long l1), (3, .long l3)]) hx hb dX10_flowAt_44 hl (by decide) rfl (fun ls hl => ?_)
        refine lv_iconst (v := 0) hx hb dX10_flowAt_46 li_0 ?_
        refine lv_istore (lv' := [(7, .int 0), (5, .long 0), (0, .ref h0), (1, .long l1), (3, .long l3)]) hx hb dX10_flowAt_47 hl (by decide) rfl (fun ls hl => ?_)
        exact k_X10_flowAt_b49 S hr hlk hK hP _ 0 0 _ (Nat.lt_succ_self _) h  (lv_sub hl [2, 1, 0] rfl)
    · have h := iteN c1 h
      refine lv_lload_n hx hb dX10_flowAt_14 rfl (lv_at hl 2 rfl) ?_
      refine lv_aload_n hx hb dX10_flowAt_15 rfl (lv_at hl 0 rfl) ?_
      refine gf_X10_19 (v := .ref h2) S hK hP 0 rfl rfl dX10_flowAt_16 ?_
      refine lv_iload hx hb dX10_flowAt_19 (lv_at hl 3 rfl) ?_
      obtain ⟨g4, h⟩ := grd_eq h
      refine aldI (k := l5.toNatClampNeg) (q0 := 2) S hK hP rfl (vin_in g4) rfl dX10_flowAt_21 ?_
      refine lv_i2l hx hb dX10_flowAt_22 rfl ?_
      refine lv_ladd hx hb dX10_flowAt_23 ?_
      refine lv_topl (fun z5 e_z5 => ?_)
      have h := bnd_eq e_z5.symm h
      refine lv_lstore_n (lv' := [(3, .long z5), (0, .ref h0), (1, .long l1), (5, .int l5)]) hx hb dX10_flowAt_24 rfl hl (by decide) rfl (fun ls hl => ?_)
      refine lv_iinc (v := l5 + 1) (lv' := [(5, .int (l5 + 1)), (3, .long z5), (0, .ref h0), (1, .long l1)]) hx hb dX10_flowAt_25 hl (k := 3) rfl rfl (by decide) rfl (fun ls hl => ?_)
      refine lv_goto (tgt := 5) hx hb dX10_flowAt_28 (by decide) ?_
      exact ih l1 z5 (l5 + 1) _ (by first | exact mu_upA (by assumption) hmu | exact mu_upB (by assumption) hmu) h  (lv_sub hl [2, 3, 1, 0] rfl)
set_option maxHeartbeats 4000000 in
set_option maxRecDepth 100000 in
theorem c_X10_flowAt (l : Launch) (D : va_G) (cI cJ cC : ClassId) (h0 h1 h2 kthis_p kthis_rates kthis_ladder kthis_now kthis_trial : Nat) (v0_phases v0_has v0_thrown : Int32) (r1 r2 : Nat → Int32) (p0 : Int64) (t0 : Int32) (h : f_X10_flowAt v0_phases r1 r2 p0 = some t0) : Met l yX10_flowAt (Cond.code yX10_flowAt cX10_flowAt 8 (some .int) :: TB) rm_X10_flowAt (PreR D cI cJ cC [(h0, .inr (10, [.ref kthis_p, .ref kthis_rates, .ref kthis_ladder, .ref h2, .ref h1, .int v0_phases, .ref kthis_now, .ref kthis_trial, .int v0_has, .int v0_thrown])), (h1, .inl (cI, 20, .inl r1)), (h2, .inl (cI, 20, .inl r2))] [.ref h0, .long p0]) (QR (some (.int t0))) 0 0 free0 := by
  refine metR (own := RX10) (by decide) rfl (Nat.le_of_ble_eq_true rfl) ?_
  intro p e s m below meth c S hr hlk hP hK ls hl
  have hx := S.1
  have hb := S.2.1
  have hl : lv_has ls 8 [(0, .ref h0), (1, .long p0)] := hl
  refine lv_lconst (v := 0) hx hb dX10_flowAt_0 rfl ?_
  refine lv_lstore_n (lv' := [(3, .long 0), (0, .ref h0), (1, .long p0)]) hx hb dX10_flowAt_1 rfl hl (by decide) rfl (fun ls hl => ?_)
  refine lv_iconst (v := 0) hx hb dX10_flowAt_2 li_0 ?_
  refine lv_istore (lv' := [(5, .int 0), (3, .long 0), (0, .ref h0), (1, .long p0)]) hx hb dX10_flowAt_3 hl (by decide) rfl (fun ls hl => ?_)
  exact k_X10_flowAt_b5 S hr hlk hK hP _ p0 0 0 _ (Nat.lt_succ_self _) h  (lv_sub hl [2, 3, 1, 0] rfl)
abbrev rm_X10_bandwidth : Room := { frames := 1, cells := 0, slots := 0, locals := 27 }
theorem dX10_bandwidth_0 : decode cX10_bandwidth 0 = .ok (.aload_n 0, 1) := by decide +kernel
theorem dX10_bandwidth_1 : decode cX10_bandwidth 1 = .ok (.iconst 0, 1) := by decide +kernel
theorem dX10_bandwidth_2 : decode cX10_bandwidth 2 = .ok (.putfield 33, 3) := by decide +kernel
theorem dX10_bandwidth_5 : decode cX10_bandwidth 5 = .ok (.iload_n 1, 1) := by decide +kernel
theorem dX10_bandwidth_6 : decode cX10_bandwidth 6 = .ok (.ifCond .ge 11, 3) := by decide +kernel
theorem dX10_bandwidth_9 : decode cX10_bandwidth 9 = .ok (.aload_n 0, 1) := by decide +kernel
theorem dX10_bandwidth_10 : decode cX10_bandwidth 10 = .ok (.iconst 1, 1) := by decide +kernel
theorem dX10_bandwidth_11 : decode cX10_bandwidth 11 = .ok (.invokevirtual 43, 3) := by decide +kernel
theorem dX10_bandwidth_14 : decode cX10_bandwidth 14 = .ok (.goto 9, 3) := by decide +kernel
theorem dX10_bandwidth_17 : decode cX10_bandwidth 17 = .ok (.aload_n 0, 1) := by decide +kernel
theorem dX10_bandwidth_18 : decode cX10_bandwidth 18 = .ok (.iload_n 1, 1) := by decide +kernel
theorem dX10_bandwidth_19 : decode cX10_bandwidth 19 = .ok (.i2l, 1) := by decide +kernel
theorem dX10_bandwidth_20 : decode cX10_bandwidth 20 = .ok (.invokevirtual 68, 3) := by decide +kernel
theorem dX10_bandwidth_23 : decode cX10_bandwidth 23 = .ok (.ireturn, 1) := by decide +kernel
theorem cw_X10_68 {R : Room} {s : State} {args : Array Value} (hts : ∀ w ∈ TB, w.before args s = true) (hR : rm_X10_flowAt.frames + 1 ≤ R.frames ∧ 8 + (8 + 11) + rm_X10_flowAt.locals ≤ R.locals) : CallW R s args RX10 RX10 68 yX10_flowAt cX10_flowAt 8 (some .int) (Cond.code yX10_flowAt cX10_flowAt 8 (some .int) :: TB) rm_X10_flowAt 0 0 1 := cwV 1 hts (gV tb1034 tb1035 tb22 tb57 tb1036) rfl rfl rfl ⟨rfl, by decide, by decide, by decide +kernel⟩ hR
def f_X10_bandwidth (v0_phases : Int32) (r1 r2 : Nat → Int32) (p0 : Int32) : Option (Int32 × Int32) :=
  if 0 ≤ p0 then
    obnd (f_X10_flowAt v0_phases r1 r2 p0.toInt64) fun (y2 : Int32) =>
    some (y2, 0)
  else
    bnd2 (f_X10_fails 1) fun (y3 : Int32) (y4 : Int32) =>
    some (y3, y4)
set_option maxHeartbeats 4000000 in
set_option maxRecDepth 100000 in
theorem c_X10_bandwidth (l : Launch) (D : va_G) (cI cJ cC : ClassId) (h0 h1 h2 kthis_p kthis_rates kthis_ladder kthis_now kthis_trial : Nat) (v0_phases v0_has v0_thrown : Int32) (r1 r2 : Nat → Int32) (sz : Nat) (p0 : Int32) (T : Int32 × Int32) (h : f_X10_bandwidth v0_phases r1 r2 p0 = some T) : Met l yX10_bandwidth (Cond.code yX10_bandwidth cX10_bandwidth 2 (some .int) :: TB) rm_X10_bandwidth (PreW D cI cJ cC [(h0, .inr (10, [.ref kthis_p, .ref kthis_rates, .ref kthis_ladder, .ref h2, .ref h1, .int v0_phases, .ref kthis_now, .ref kthis_trial, .int v0_has, .int v0_thrown])), (h1, .inl (cI, 20, .inl r1)), (h2, .inl (cI, 20, .inl r2))] sz [.ref h0, .int p0]) (QW (some (.int T.1)) D [(h0, .inr (10, [.ref kthis_p, .ref kthis_rates, .ref kthis_ladder, .ref h2, .ref h1, .int v0_phases, .ref kthis_now, .ref kthis_trial, .int v0_has, .int T.2])), (h1, .inl (cI, 20, .inl r1)), (h2, .inl (cI, 20, .inl r2))] (va_A [(h0, .inr (10, [.ref kthis_p, .ref kthis_rates, .ref kthis_ladder, .ref h2, .ref h1, .int v0_phases, .ref kthis_now, .ref kthis_trial, .int v0_has, .int v0_thrown])), (h1, .inl (cI, 20, .inl r1)), (h2, .inl (cI, 20, .inl r2))] sz)) 0 0 (va_A [(h0, .inr (10, [.ref kthis_p, .ref kthis_rates, .ref kthis_ladder, .ref h2, .ref h1, .int v0_phases, .ref kthis_now, .ref kthis_trial, .int v0_has, .int v0_thrown])), (h1, .inl (cI, 20, .inl r1)), (h2, .inl (cI, 20, .inl r2))] sz) := by
  refine metW (own := RX10) (by decide) rfl (Nat.le_of_ble_eq_true rfl) ?_
  intro p e s m below meth c S hr hlk hP hK A hAe hD hA hS ls hl
  clear hAe
  have hx := S.1
  have hb := S.2.1
  have hl : lv_has ls 2 [(0, .ref h0), (1, .int p0)] := hl
  refine lv_aload_n hx hb dX10_bandwidth_0 rfl (lv_at hl 0 rfl) ?_
  refine lv_iconst (v := 0) hx hb dX10_bandwidth_1 li_0 ?_
  refine pf_X10_33 (v := .int 0) S hK hP hD hS 0 rfl (Nat.le_of_ble_eq_true rfl) rfl dX10_bandwidth_2 (fun H locs hP hD hS => ?_)
  have hP : va_P D vwCl [(h0, .inr (10, [.ref kthis_p, .ref kthis_rates, .ref kthis_ladder, .ref h2, .ref h1, .int v0_phases, .ref kthis_now, .ref kthis_trial, .int v0_has, .int 0])), (h1, .inl (cI, 20, .inl r1)), (h2, .inl (cI, 20, .inl r2))] H := hP
  have hD : va_D A [(h0, .inr (10, [.ref kthis_p, .ref kthis_rates, .ref kthis_ladder, .ref h2, .ref h1, .int v0_phases, .ref kthis_now, .ref kthis_trial, .int v0_has, .int 0])), (h1, .inl (cI, 20, .inl r1)), (h2, .inl (cI, 20, .inl r2))] := hD
  refine lv_iload_n hx hb dX10_bandwidth_5 rfl (lv_at hl 1 rfl) ?_
  refine lv_if_ge (tgt := 17) hx hb dX10_bandwidth_6 (by decide) (fun c1 => ?_) (fun c1 => ?_)
  · have h := iteP c1 h
    refine lv_aload_n hx hb dX10_bandwidth_17 rfl (lv_at hl 0 rfl) ?_
    refine lv_iload_n hx hb dX10_bandwidth_18 rfl (lv_at hl 1 rfl) ?_
    refine lv_i2l hx hb dX10_bandwidth_19 rfl ?_
    obtain ⟨y2, e_y2, h⟩ := obnd_eq h
    refine rdV (pc1 := 23) (rest := []) (st1 := [.int y2]) S (c_X10_flowAt l D cI cJ cC h0 h1 h2 kthis_p kthis_rates kthis_ladder kthis_now kthis_trial v0_phases v0_has 0 r1 r2 p0.toInt64 y2 e_y2) (cw_X10_68 S.2.2.2.2 ⟨Nat.le_of_ble_eq_true rfl, Nat.le_of_ble_eq_true rfl⟩) hK (hP.sub [0, 1, 2] rfl) rfl rfl rfl rfl hl.1 rfl (Nat.le_of_ble_eq_true rfl) ⟨Nat.zero_le _, Nat.zero_le _⟩ rfl rfl dX10_bandwidth_20 ?_
    have h := Option.some.inj h
    subst h
    exact wRi S hr hlk (hP.sub [0, 1, 2] rfl) (hD.sub [0, 1, 2] (by decide) rfl) hS dX10_bandwidth_23
  · have h := iteN c1 h
    refine lv_aload_n hx hb dX10_bandwidth_9 rfl (lv_at hl 0 rfl) ?_
    refine lv_iconst (v := 1) hx hb dX10_bandwidth_10 li_1 ?_
    obtain ⟨y3, y4, e_y3⟩ : ∃ a0 a1, f_X10_fails 1 = (a0, a1) := ⟨_, _, rfl⟩
    have h := bnd2_eq e_y3 h
    refine wrV (pc1 := 14) (rest := []) (st1 := [.int y3]) (wr := [(h1, .inl (cI, 20, .inl r1)), (h2, .inl (cI, 20, .inl r2))]) S (c_X10_fails l D cI cJ cC h0 kthis_p kthis_rates kthis_ladder h2 h1 kthis_now kthis_trial v0_phases v0_has 0 H.size 1 (y3, y4) e_y3) (cw_X10_43 S.2.2.2.2 ⟨Nat.le_of_ble_eq_true rfl, Nat.le_of_ble_eq_true rfl⟩) hK hP hD hS hA [0] [1, 2] rfl rfl rfl (by decide) (by decide) (by decide) rfl rfl rfl rfl hl.1 rfl (Nat.le_of_ble_eq_true rfl) ⟨Nat.zero_le _, Nat.zero_le _⟩ rfl rfl dX10_bandwidth_11 (fun H locs hP hD hS => ?_)
    have hP : va_P D vwCl [(h1, .inl (cI, 20, .inl r1)), (h2, .inl (cI, 20, .inl r2)), (h0, .inr (10, [.ref kthis_p, .ref kthis_rates, .ref kthis_ladder, .ref h2, .ref h1, .int v0_phases, .ref kthis_now, .ref kthis_trial, .int v0_has, .int y4]))] H := hP
    have hD : va_D A [(h1, .inl (cI, 20, .inl r1)), (h2, .inl (cI, 20, .inl r2)), (h0, .inr (10, [.ref kthis_p, .ref kthis_rates, .ref kthis_ladder, .ref h2, .ref h1, .int v0_phases, .ref kthis_now, .ref kthis_trial, .int v0_has, .int y4]))] := hD
    refine lv_goto (tgt := 23) hx hb dX10_bandwidth_14 (by decide) ?_
    have h := Option.some.inj h
    subst h
    exact wRi S hr hlk (hP.sub [2, 0, 1] rfl) (hD.sub [2, 0, 1] (by decide) rfl) hS dX10_bandwidth_23
abbrev rm_X10_sizeOf : Room := { frames := 1, cells := 0, slots := 0, locals := 23 }
theorem dX10_sizeOf_0 : decode cX10_sizeOf 0 = .ok (.ldc2_w 72, 3) := by decide +kernel
theorem dX10_sizeOf_3 : decode cX10_sizeOf 3 = .ok (.ldc2_w 74, 3) := by decide +kernel
theorem dX10_sizeOf_6 : decode cX10_sizeOf 6 = .ok (.lload 4, 2) := by decide +kernel
theorem dX10_sizeOf_8 : decode cX10_sizeOf 8 = .ok (.lmul, 1) := by decide +kernel
theorem dX10_sizeOf_9 : decode cX10_sizeOf 9 = .ok (.ldc2_w 76, 3) := by decide +kernel
theorem dX10_sizeOf_12 : decode cX10_sizeOf 12 = .ok (.lload_n 2, 1) := by decide +kernel
theorem dX10_sizeOf_13 : decode cX10_sizeOf 13 = .ok (.lmul, 1) := by decide +kernel
theorem dX10_sizeOf_14 : decode cX10_sizeOf 14 = .ok (.ladd, 1) := by decide +kernel
theorem dX10_sizeOf_15 : decode cX10_sizeOf 15 = .ok (.ldc2_w 78, 3) := by decide +kernel
theorem dX10_sizeOf_18 : decode cX10_sizeOf 18 = .ok (.iload_n 1, 1) := by decide +kernel
theorem dX10_sizeOf_19 : decode cX10_sizeOf 19 = .ok (.i2l, 1) := by decide +kernel
theorem dX10_sizeOf_20 : decode cX10_sizeOf 20 = .ok (.lmul, 1) := by decide +kernel
theorem dX10_sizeOf_21 : decode cX10_sizeOf 21 = .ok (.ladd, 1) := by decide +kernel
theorem dX10_sizeOf_22 : decode cX10_sizeOf 22 = .ok (.ldc2_w 80, 3) := by decide +kernel
theorem dX10_sizeOf_25 : decode cX10_sizeOf 25 = .ok (.lrem, 1) := by decide +kernel
theorem dX10_sizeOf_26 : decode cX10_sizeOf 26 = .ok (.ladd, 1) := by decide +kernel
theorem dX10_sizeOf_27 : decode cX10_sizeOf 27 = .ok (.lstore 6, 2) := by decide +kernel
theorem dX10_sizeOf_29 : decode cX10_sizeOf 29 = .ok (.aload_n 0, 1) := by decide +kernel
theorem dX10_sizeOf_30 : decode cX10_sizeOf 30 = .ok (.iload_n 1, 1) := by decide +kernel
theorem dX10_sizeOf_31 : decode cX10_sizeOf 31 = .ok (.lload_n 2, 1) := by decide +kernel
theorem dX10_sizeOf_32 : decode cX10_sizeOf 32 = .ok (.invokevirtual 59, 3) := by decide +kernel
theorem dX10_sizeOf_35 : decode cX10_sizeOf 35 = .ok (.i2l, 1) := by decide +kernel
theorem dX10_sizeOf_36 : decode cX10_sizeOf 36 = .ok (.aload_n 0, 1) := by decide +kernel
theorem dX10_sizeOf_37 : decode cX10_sizeOf 37 = .ok (.getfield 7, 3) := by decide +kernel
theorem dX10_sizeOf_40 : decode cX10_sizeOf 40 = .ok (.iconst 0, 1) := by decide +kernel
theorem dX10_sizeOf_41 : decode cX10_sizeOf 41 = .ok (.iaload, 1) := by decide +kernel
theorem dX10_sizeOf_42 : decode cX10_sizeOf 42 = .ok (.i2l, 1) := by decide +kernel
theorem dX10_sizeOf_43 : decode cX10_sizeOf 43 = .ok (.lmul, 1) := by decide +kernel
theorem dX10_sizeOf_44 : decode cX10_sizeOf 44 = .ok (.lload 6, 2) := by decide +kernel
theorem dX10_sizeOf_46 : decode cX10_sizeOf 46 = .ok (.lmul, 1) := by decide +kernel
theorem dX10_sizeOf_47 : decode cX10_sizeOf 47 = .ok (.ldc2_w 82, 3) := by decide +kernel
theorem dX10_sizeOf_50 : decode cX10_sizeOf 50 = .ok (.ldiv, 1) := by decide +kernel
theorem dX10_sizeOf_51 : decode cX10_sizeOf 51 = .ok (.lstore 8, 2) := by decide +kernel
theorem dX10_sizeOf_53 : decode cX10_sizeOf 53 = .ok (.lload 8, 2) := by decide +kernel
theorem dX10_sizeOf_55 : decode cX10_sizeOf 55 = .ok (.lconst 1, 1) := by decide +kernel
theorem dX10_sizeOf_56 : decode cX10_sizeOf 56 = .ok (.lcmp, 1) := by decide +kernel
theorem dX10_sizeOf_57 : decode cX10_sizeOf 57 = .ok (.ifCond .ge 7, 3) := by decide +kernel
theorem dX10_sizeOf_60 : decode cX10_sizeOf 60 = .ok (.lconst 1, 1) := by decide +kernel
theorem dX10_sizeOf_61 : decode cX10_sizeOf 61 = .ok (.goto 5, 3) := by decide +kernel
theorem dX10_sizeOf_64 : decode cX10_sizeOf 64 = .ok (.lload 8, 2) := by decide +kernel
theorem dX10_sizeOf_66 : decode cX10_sizeOf 66 = .ok (.lreturn, 1) := by decide +kernel
def f_X10_sizeOf (r1 r2 : Nat → Int32) (p0 : Int32) (p1 p2 : Int64) : Option Int64 :=
  bnd (85 + (rm64 (((7 * p2) + (13 * p1)) + (3 * p0.toInt64)) 31)) fun (z1 : Int64) =>
  obnd (f_X10_rate r2 p0 p1) fun (y2 : Int32) =>
  bnd (((y2.toInt64 * ((r1 0).toInt64)) * z1) / 100) fun (z3 : Int64) =>
  if 1 ≤ z3 then
    some z3
  else
    some 1
set_option maxHeartbeats 4000000 in
set_option maxRecDepth 100000 in
theorem c_X10_sizeOf (l : Launch) (D : va_G) (cI cJ cC : ClassId) (h0 h1 h2 kthis_ladder kthis_lengths kthis_flows kthis_now kthis_trial : Nat) (v0_phases v0_has v0_thrown : Int32) (r1 r2 : Nat → Int32) (p0 : Int32) (p1 p2 : Int64) (t0 : Int64) (h : f_X10_sizeOf r1 r2 p0 p1 p2 = some t0) : Met l yX10_sizeOf (Cond.code yX10_sizeOf cX10_sizeOf 10 (some .long) :: TB) rm_X10_sizeOf (PreR D cI cJ cC [(h0, .inr (10, [.ref h1, .ref h2, .ref kthis_ladder, .ref kthis_lengths, .ref kthis_flows, .int v0_phases, .ref kthis_now, .ref kthis_trial, .int v0_has, .int v0_thrown])), (h1, .inl (cI, 15, .inl r1)), (h2, .inl (cI, 12, .inl r2))] [.ref h0, .int p0, .long p1, .long p2]) (QR (some (.long t0))) 0 0 free0 := by
  refine metR (own := RX10) (by decide) rfl (Nat.le_of_ble_eq_true rfl) ?_
  intro p e s m below meth c S hr hlk hP hK ls hl
  have hx := S.1
  have hb := S.2.1
  have hl : lv_has ls 10 [(0, .ref h0), (1, .int p0), (2, .long p1), (4, .long p2)] := hl
  refine lv_ldc2 (v := 85) hx hb S.2.2.2.1 (S.2.2.2.2 _ tb1044) dX10_sizeOf_0 ?_
  refine lv_ldc2 (v := 7) hx hb S.2.2.2.1 (S.2.2.2.2 _ tb1045) dX10_sizeOf_3 ?_
  refine lv_lload hx hb dX10_sizeOf_6 (lv_at hl 3 rfl) ?_
  refine lv_lmul hx hb dX10_sizeOf_8 ?_
  refine lv_ldc2 (v := 13) hx hb S.2.2.2.1 (S.2.2.2.2 _ tb1046) dX10_sizeOf_9 ?_
  refine lv_lload_n hx hb dX10_sizeOf_12 rfl (lv_at hl 2 rfl) ?_
  refine lv_lmul hx hb dX10_sizeOf_13 ?_
  refine lv_ladd hx hb dX10_sizeOf_14 ?_
  refine lv_ldc2 (v := 3) hx hb S.2.2.2.1 (S.2.2.2.2 _ tb1047) dX10_sizeOf_15 ?_
  refine lv_iload_n hx hb dX10_sizeOf_18 rfl (lv_at hl 1 rfl) ?_
  refine lv_i2l hx hb dX10_sizeOf_19 rfl ?_
  refine lv_lmul hx hb dX10_sizeOf_20 ?_
  refine lv_ladd hx hb dX10_sizeOf_21 ?_
  refine lv_ldc2 (v := 31) hx hb S.2.2.2.1 (S.2.2.2.2 _ tb1048) dX10_sizeOf_22 ?_
  refine remw_l hx hb dX10_sizeOf_25 nzl_31 ?_
  refine lv_ladd hx hb dX10_sizeOf_26 ?_
  refine lv_topl (fun z1 e_z1 => ?_)
  have h := bnd_eq e_z1.symm h
  refine lv_lstore (lv' := [(6, .long z1), (0, .ref h0), (1, .int p0), (2, .long p1), (4, .long p2)]) hx hb dX10_sizeOf_27 hl (by decide) rfl (fun ls hl => ?_)
  refine lv_aload_n hx hb dX10_sizeOf_29 rfl (lv_at hl 1 rfl) ?_
  refine lv_iload_n hx hb dX10_sizeOf_30 rfl (lv_at hl 2 rfl) ?_
  refine lv_lload_n hx hb dX10_sizeOf_31 rfl (lv_at hl 3 rfl) ?_
  obtain ⟨y2, e_y2, h⟩ := obnd_eq h
  refine rdV (pc1 := 35) (rest := []) (st1 := [.int y2]) S (c_X10_rate l D cI cJ cC h0 h2 h1 kthis_ladder kthis_lengths kthis_flows kthis_now kthis_trial v0_phases v0_has v0_thrown r2 p0 p1 y2 e_y2) (cw_X10_59 S.2.2.2.2 ⟨Nat.le_of_ble_eq_true rfl, Nat.le_of_ble_eq_true rfl⟩) hK (hP.sub [0, 2] rfl) rfl rfl rfl rfl hl.1 rfl (Nat.le_of_ble_eq_true rfl) ⟨Nat.zero_le _, Nat.zero_le _⟩ rfl rfl dX10_sizeOf_32 ?_
  refine lv_i2l hx hb dX10_sizeOf_35 rfl ?_
  refine lv_aload_n hx hb dX10_sizeOf_36 rfl (lv_at hl 1 rfl) ?_
  refine gf_X10_7 (v := .ref h1) S hK hP 0 rfl rfl dX10_sizeOf_37 ?_
  refine lv_iconst (v := 0) hx hb dX10_sizeOf_40 li_0 ?_
  refine aldI (k := 0) (q0 := 1) S hK hP rfl vl_0_15 tn_0 dX10_sizeOf_41 ?_
  refine lv_i2l hx hb dX10_sizeOf_42 rfl ?_
  refine lv_lmul hx hb dX10_sizeOf_43 ?_
  refine lv_lload hx hb dX10_sizeOf_44 (lv_at hl 0 rfl) ?_
  refine lv_lmul hx hb dX10_sizeOf_46 ?_
  refine lv_ldc2 (v := 100) hx hb S.2.2.2.1 (S.2.2.2.2 _ tb1049) dX10_sizeOf_47 ?_
  refine lv_ldiv hx hb dX10_sizeOf_50 nzl_100 ?_
  refine lv_topl (fun z3 e_z3 => ?_)
  have h := bnd_eq e_z3.symm h
  refine lv_lstore (lv' := [(8, .long z3), (6, .long z1), (0, .ref h0), (1, .int p0), (2, .long p1), (4, .long p2)]) hx hb dX10_sizeOf_51 hl (by decide) rfl (fun ls hl => ?_)
  refine lv_lload hx hb dX10_sizeOf_53 (lv_at hl 0 rfl) ?_
  refine lv_lconst (v := 1) hx hb dX10_sizeOf_55 rfl ?_
  refine lc_ge (tgt := 64) hx hb dX10_sizeOf_56 dX10_sizeOf_57 (by decide) (fun c4 => ?_) (fun c4 => ?_)
  · have h := iteP c4 h
    refine lv_lload hx hb dX10_sizeOf_64 (lv_at hl 0 rfl) ?_
    have h := Option.some.inj h
    subst h
    exact rRl S hr hlk dX10_sizeOf_66
  · have h := iteN c4 h
    refine lv_lconst (v := 1) hx hb dX10_sizeOf_60 rfl ?_
    refine lv_goto (tgt := 66) hx hb dX10_sizeOf_61 (by decide) ?_
    have h := Option.some.inj h
    subst h
    exact rRl S hr hlk dX10_sizeOf_66
